set_option maxRecDepth 10000 in
theorem w6_digestOfHours_L76 {ad : xAd} {E : xE} (X : FX ad E cX6_digestOfHours 7 RX6 (some .long) 5 113)   {K : Int64 → xSt → Prop} {Q : Int64 → xSt → Prop} : ∀ (n : Nat) (a3 : Int64) (a5 : Int32) (σ : xSt), d6_digestOfHours_L76 K Q n a3 a5 σ → (∀ (a3 : Int64) (s : xSt), K a3 s → KK ad E (qL Q) 102 ([(0, .ref (ad 0 0 0)), (3, .long a3)]) [] s) → KK ad E (qL Q) 76 ([(0, .ref (ad 0 0 0)), (3, .long a3), (5, .int a5)]) [] σ := by
  intro n
  induction n with
  | zero => intro a3 a5 σ h kk; exact h.elim
  | succ n ih =>
    intro a3 a5 σ h kk
    rw [d6_digestOfHours_L76] at h
    refine r_iload X (x_dr DX6_digestOfHours 44 rfl) 2 rfl ?_
    refine r_iconst (v := 2) X (x_dr DX6_digestOfHours 45 rfl) (by decide) ?_
    refine r_icmp_gt X 102 (x_dr DX6_digestOfHours 46 rfl) (by decide) (fun c18 => ?_) (fun c18 => ?_)
    · replace h := h.1 c18
      refine r_norm X [0, 1] ([(0, .ref (ad 0 0 0)), (3, .long a3)]) rfl ?_
      exact kk _ _ h
    · replace h := h.2 c18
      refine r_ldc2 X mkl_6_307 (x_dr DX6_digestOfHours 47 rfl) ?_
      refine r_lload_n X (x_dr DX6_digestOfHours 48 rfl) 1 rfl rfl ?_
      refine r_lmul X (x_dr DX6_digestOfHours 49 rfl) ?_
      refine r_aload_n X (x_dr DX6_digestOfHours 50 rfl) 0 rfl rfl ?_
      refine r_iload X (x_dr DX6_digestOfHours 51 rfl) 2 rfl ?_
      refine cl6_crowd X (k6_crowd h) rfl ml_6_404 ⟨Nat.le_of_ble_eq_true rfl, Nat.le_of_ble_eq_true rfl⟩ (Nat.le_of_ble_eq_true rfl) (x_dr DX6_digestOfHours 52 rfl) (fun v20 s19 h => ?_)
      refine r_i2l X (x_dr DX6_digestOfHours 53 rfl) ?_
      refine r_ladd X (x_dr DX6_digestOfHours 54 rfl) ?_
      refine r_nmJ (fun v21 ev21 => ?_)
      replace h := h v21 ev21
      refine r_lstore_n X ([(3, .long v21), (0, .ref (ad 0 0 0)), (5, .int a5)]) (x_dr DX6_digestOfHours 55 rfl) rfl (by decide) rfl ?_
      obtain ⟨v22, ev22⟩ : ∃ z : Int32, z = a5 + 1 := ⟨_, rfl⟩
      replace h := h v22 ev22
      refine r_iinc (v := v22) X ([(5, .int v22), (3, .long v21), (0, .ref (ad 0 0 0))]) 2 (x_dr DX6_digestOfHours 56 rfl) rfl (by rw [ev22]; rfl) (by decide) rfl ?_
      refine r_goto X 76 (x_dr DX6_digestOfHours 57 rfl) (by decide) ?_
      refine r_norm X [2, 1, 0] ([(0, .ref (ad 0 0 0)), (3, .long v21), (5, .int v22)]) rfl ?_
      exact ih _ _ _ h kk
set_option maxRecDepth 10000 in
theorem k6_digestOfHours {ad : xAd} {G : xG} {l : Launch} {a1 : Int64} {σ : xSt} {Q : Int64 → xSt → Prop}  (h : d6_digestOfHours a1 σ Q) : MC ad G l yX6_digestOfHours cX6_digestOfHours 7 (some .long) 5 113 [.ref (ad 0 0 0), .long a1] σ (qL Q) := by
  unfold d6_digestOfHours at h
  refine x_MC [(0, .ref (ad 0 0 0)), (1, .long a1)] (by decide +kernel) rfl (Nat.le_of_ble_eq_true rfl) ?_
  intro E hG hl X
  replace X : FX ad E cX6_digestOfHours 7 RX6 (some .long) 5 113 := X
  refine r_lload_n X (x_dr DX6_digestOfHours 0 rfl) 1 rfl rfl ?_
  refine r_lstore_n X ([(3, .long a1), (0, .ref (ad 0 0 0)), (1, .long a1)]) (x_dr DX6_digestOfHours 1 rfl) rfl (by decide) rfl ?_
  refine r_iconst (v := 0) X (x_dr DX6_digestOfHours 2 rfl) (by decide) ?_
  refine r_istore X ([(5, .int 0), (3, .long a1), (0, .ref (ad 0 0 0)), (1, .long a1)]) (x_dr DX6_digestOfHours 3 rfl) (by decide) rfl ?_
  refine r_norm X [2, 1, 0] ([(0, .ref (ad 0 0 0)), (3, .long a1), (5, .int 0)]) rfl ?_
  refine w6_digestOfHours_L5 X  _ _ _ _ h (fun v11 s10 h => ?_)
  refine r_ldc2 X mkl_6_307 (x_dr DX6_digestOfHours 26 rfl) ?_
  refine r_lload_n X (x_dr DX6_digestOfHours 27 rfl) 1 rfl rfl ?_
  refine r_lmul X (x_dr DX6_digestOfHours 28 rfl) ?_
  refine r_aload_n X (x_dr DX6_digestOfHours 29 rfl) 0 rfl rfl ?_
  refine cl6_governments X (k6_governments h) rfl ml_6_398 ⟨Nat.le_of_ble_eq_true rfl, Nat.le_of_ble_eq_true rfl⟩ (Nat.le_of_ble_eq_true rfl) (x_dr DX6_digestOfHours 30 rfl) (fun v13 s12 h => ?_)
  refine r_i2l X (x_dr DX6_digestOfHours 31 rfl) ?_
  refine r_ladd X (x_dr DX6_digestOfHours 32 rfl) ?_
  refine r_nmJ (fun v14 ev14 => ?_)
  replace h := h v14 ev14
  refine r_lstore_n X ([(3, .long v14), (0, .ref (ad 0 0 0))]) (x_dr DX6_digestOfHours 33 rfl) rfl (by decide) rfl ?_
  refine r_ldc2 X mkl_6_307 (x_dr DX6_digestOfHours 34 rfl) ?_
  refine r_lload_n X (x_dr DX6_digestOfHours 35 rfl) 0 rfl rfl ?_
  refine r_lmul X (x_dr DX6_digestOfHours 36 rfl) ?_
  refine r_aload_n X (x_dr DX6_digestOfHours 37 rfl) 1 rfl rfl ?_
  refine cl6_carried X (k6_carried h) rfl ml_6_401 ⟨Nat.le_of_ble_eq_true rfl, Nat.le_of_ble_eq_true rfl⟩ (Nat.le_of_ble_eq_true rfl) (x_dr DX6_digestOfHours 38 rfl) (fun v16 s15 h => ?_)
  refine r_i2l X (x_dr DX6_digestOfHours 39 rfl) ?_
  refine r_ladd X (x_dr DX6_digestOfHours 40 rfl) ?_
  refine r_nmJ (fun v17 ev17 => ?_)
  replace h := h v17 ev17
  refine r_lstore_n X ([(3, .long v17), (0, .ref (ad 0 0 0))]) (x_dr DX6_digestOfHours 41 rfl) rfl (by decide) rfl ?_
  refine r_iconst (v := 0) X (x_dr DX6_digestOfHours 42 rfl) (by decide) ?_
  refine r_istore X ([(5, .int 0), (3, .long v17), (0, .ref (ad 0 0 0))]) (x_dr DX6_digestOfHours 43 rfl) (by decide) rfl ?_
  refine r_norm X [2, 1, 0] ([(0, .ref (ad 0 0 0)), (3, .long v17), (5, .int 0)]) rfl ?_
  refine w6_digestOfHours_L76 X  _ _ _ _ h (fun v24 s23 h => ?_)
  refine r_ldc2 X mkl_6_307 (x_dr DX6_digestOfHours 58 rfl) ?_
  refine r_lload_n X (x_dr DX6_digestOfHours 59 rfl) 1 rfl rfl ?_
  refine r_lmul X (x_dr DX6_digestOfHours 60 rfl) ?_
  refine r_aload_n X (x_dr DX6_digestOfHours 61 rfl) 0 rfl rfl ?_
  refine cl6_orator X (k6_orator h) rfl ml_6_407 ⟨Nat.le_of_ble_eq_true rfl, Nat.le_of_ble_eq_true rfl⟩ (Nat.le_of_ble_eq_true rfl) (x_dr DX6_digestOfHours 62 rfl) (fun v26 s25 h => ?_)
  refine r_i2l X (x_dr DX6_digestOfHours 63 rfl) ?_
  refine r_ladd X (x_dr DX6_digestOfHours 64 rfl) ?_
  refine r_nmJ (fun v27 ev27 => ?_)
  replace h := h v27 ev27
  refine r_lstore_n X ([(3, .long v27), (0, .ref (ad 0 0 0))]) (x_dr DX6_digestOfHours 65 rfl) rfl (by decide) rfl ?_
  refine r_ldc2 X mkl_6_307 (x_dr DX6_digestOfHours 66 rfl) ?_
  refine r_lload_n X (x_dr DX6_digestOfHours 67 rfl) 0 rfl rfl ?_
  refine r_lmul X (x_dr DX6_digestOfHours 68 rfl) ?_
  refine r_aload_n X (x_dr DX6_digestOfHours 69 rfl) 1 rfl rfl ?_
  refine cl6_still X (k6_still h) rfl ml_6_410 ⟨Nat.le_of_ble_eq_true rfl, Nat.le_of_ble_eq_true rfl⟩ (Nat.le_of_ble_eq_true rfl) (x_dr DX6_digestOfHours 70 rfl) (fun v29 s28 h => ?_)
  refine r_i2l X (x_dr DX6_digestOfHours 71 rfl) ?_
  refine r_ladd X (x_dr DX6_digestOfHours 72 rfl) ?_
  exact r_lret X rfl (x_dr DX6_digestOfHours 73 rfl) ⟨_, rfl, h⟩
set_option maxRecDepth 10000 in
theorem k6_digestOfPlans {ad : xAd} {G : xG} {l : Launch} {a1 : Int64} {σ : xSt} {Q : Int64 → xSt → Prop}  (h : d6_digestOfPlans a1 σ Q) : MC ad G l yX6_digestOfPlans cX6_digestOfPlans 5 (some .long) 5 125 [.ref (ad 0 0 0), .long a1] σ (qL Q) := by
  unfold d6_digestOfPlans at h
  refine x_MC [(0, .ref (ad 0 0 0)), (1, .long a1)] (by decide +kernel) rfl (Nat.le_of_ble_eq_true rfl) ?_
  intro E hG hl X
  replace X : FX ad E cX6_digestOfPlans 5 RX6 (some .long) 5 125 := X
  refine r_lload_n X (x_dr DX6_digestOfPlans 0 rfl) 1 rfl rfl ?_
  refine r_lstore_n X ([(3, .long a1), (0, .ref (ad 0 0 0)), (1, .long a1)]) (x_dr DX6_digestOfPlans 1 rfl) rfl (by decide) rfl ?_
  refine r_aload_n X (x_dr DX6_digestOfPlans 2 rfl) 1 rfl rfl ?_
  refine r_bipush (v := 8) X (x_dr DX6_digestOfPlans 3 rfl) (by decide) ?_
  refine cl6_findDust X (k6_findDust h) rfl ml_6_210 ⟨Nat.le_of_ble_eq_true rfl, Nat.le_of_ble_eq_true rfl⟩ (Nat.le_of_ble_eq_true rfl) (x_dr DX6_digestOfPlans 4 rfl) (fun s1 h => ?_)
  refine r_ldc2 X mkl_6_307 (x_dr DX6_digestOfPlans 5 rfl) ?_
  refine r_lload_n X (x_dr DX6_digestOfPlans 6 rfl) 0 rfl rfl ?_
  refine r_lmul X (x_dr DX6_digestOfPlans 7 rfl) ?_
  refine r_aload_n X (x_dr DX6_digestOfPlans 8 rfl) 1 rfl rfl ?_
  refine gf_6_51 X rfl (x_dr DX6_digestOfPlans 9 rfl) ?_
  refine gf_6_194 X rfl (x_dr DX6_digestOfPlans 10 rfl) ?_
  refine r_i2l X (x_dr DX6_digestOfPlans 11 rfl) ?_
  refine r_ladd X (x_dr DX6_digestOfPlans 12 rfl) ?_
  refine r_nmJ (fun v2 ev2 => ?_)
  replace h := h v2 ev2
  refine r_lstore_n X ([(3, .long v2), (0, .ref (ad 0 0 0)), (1, .long a1)]) (x_dr DX6_digestOfPlans 13 rfl) rfl (by decide) rfl ?_
  refine r_ldc2 X mkl_6_307 (x_dr DX6_digestOfPlans 14 rfl) ?_
  refine r_lload_n X (x_dr DX6_digestOfPlans 15 rfl) 0 rfl rfl ?_
  refine r_lmul X (x_dr DX6_digestOfPlans 16 rfl) ?_
  refine r_aload_n X (x_dr DX6_digestOfPlans 17 rfl) 1 rfl rfl ?_
  refine gf_6_51 X rfl (x_dr DX6_digestOfPlans 18 rfl) ?_
  refine gf_6_191 X rfl (x_dr DX6_digestOfPlans 19 rfl) ?_
  refine r_i2l X (x_dr DX6_digestOfPlans 20 rfl) ?_
  refine r_ladd X (x_dr DX6_digestOfPlans 21 rfl) ?_
  refine r_nmJ (fun v3 ev3 => ?_)
  replace h := h v3 ev3
  refine r_lstore_n X ([(3, .long v3), (0, .ref (ad 0 0 0)), (1, .long a1)]) (x_dr DX6_digestOfPlans 22 rfl) rfl (by decide) rfl ?_
  refine r_aload_n X (x_dr DX6_digestOfPlans 23 rfl) 1 rfl rfl ?_
  refine cl6_findBoy X (k6_findBoy h) rfl ml_6_213 ⟨Nat.le_of_ble_eq_true rfl, Nat.le_of_ble_eq_true rfl⟩ (Nat.le_of_ble_eq_true rfl) (x_dr DX6_digestOfPlans 24 rfl) (fun s4 h => ?_)
  refine r_ldc2 X mkl_6_307 (x_dr DX6_digestOfPlans 25 rfl) ?_
  refine r_lload_n X (x_dr DX6_digestOfPlans 26 rfl) 0 rfl rfl ?_
  refine r_lmul X (x_dr DX6_digestOfPlans 27 rfl) ?_
  refine r_aload_n X (x_dr DX6_digestOfPlans 28 rfl) 1 rfl rfl ?_
  refine gf_6_51 X rfl (x_dr DX6_digestOfPlans 29 rfl) ?_
  refine gf_6_194 X rfl (x_dr DX6_digestOfPlans 30 rfl) ?_
  refine r_i2l X (x_dr DX6_digestOfPlans 31 rfl) ?_
  refine r_ladd X (x_dr DX6_digestOfPlans 32 rfl) ?_
  refine r_nmJ (fun v5 ev5 => ?_)
  replace h := h v5 ev5
  refine r_lstore_n X ([(3, .long v5), (0, .ref (ad 0 0 0)), (1, .long a1)]) (x_dr DX6_digestOfPlans 33 rfl) rfl (by decide) rfl ?_
  refine r_ldc2 X mkl_6_307 (x_dr DX6_digestOfPlans 34 rfl) ?_
  refine r_lload_n X (x_dr DX6_digestOfPlans 35 rfl) 0 rfl rfl ?_
  refine r_lmul X (x_dr DX6_digestOfPlans 36 rfl) ?_
  refine r_aload_n X (x_dr DX6_digestOfPlans 37 rfl) 1 rfl rfl ?_
  refine gf_6_51 X rfl (x_dr DX6_digestOfPlans 38 rfl) ?_
  refine gf_6_191 X rfl (x_dr DX6_digestOfPlans 39 rfl) ?_
  refine r_i2l X (x_dr DX6_digestOfPlans 40 rfl) ?_
  refine r_ladd X (x_dr DX6_digestOfPlans 41 rfl) ?_
  refine r_nmJ (fun v6 ev6 => ?_)
  replace h := h v6 ev6
  refine r_lstore_n X ([(3, .long v6), (0, .ref (ad 0 0 0)), (1, .long a1)]) (x_dr DX6_digestOfPlans 42 rfl) rfl (by decide) rfl ?_
  refine r_aload_n X (x_dr DX6_digestOfPlans 43 rfl) 1 rfl rfl ?_
  refine cl6_findCalm X (k6_findCalm h) rfl ml_6_216 ⟨Nat.le_of_ble_eq_true rfl, Nat.le_of_ble_eq_true rfl⟩ (Nat.le_of_ble_eq_true rfl) (x_dr DX6_digestOfPlans 44 rfl) (fun s7 h => ?_)
  refine r_ldc2 X mkl_6_307 (x_dr DX6_digestOfPlans 45 rfl) ?_
  refine r_lload_n X (x_dr DX6_digestOfPlans 46 rfl) 0 rfl rfl ?_
  refine r_lmul X (x_dr DX6_digestOfPlans 47 rfl) ?_
  refine r_aload_n X (x_dr DX6_digestOfPlans 48 rfl) 1 rfl rfl ?_
  refine gf_6_219 X rfl (x_dr DX6_digestOfPlans 49 rfl) ?_
  refine r_i2l X (x_dr DX6_digestOfPlans 50 rfl) ?_
  refine r_ladd X (x_dr DX6_digestOfPlans 51 rfl) ?_
  refine r_nmJ (fun v8 ev8 => ?_)
  replace h := h v8 ev8
  refine r_lstore_n X ([(3, .long v8), (0, .ref (ad 0 0 0)), (1, .long a1)]) (x_dr DX6_digestOfPlans 52 rfl) rfl (by decide) rfl ?_
  refine r_ldc2 X mkl_6_307 (x_dr DX6_digestOfPlans 53 rfl) ?_
  refine r_lload_n X (x_dr DX6_digestOfPlans 54 rfl) 0 rfl rfl ?_
  refine r_lmul X (x_dr DX6_digestOfPlans 55 rfl) ?_
  refine r_aload_n X (x_dr DX6_digestOfPlans 56 rfl) 1 rfl rfl ?_
  refine gf_6_222 X rfl (x_dr DX6_digestOfPlans 57 rfl) ?_
  refine r_i2l X (x_dr DX6_digestOfPlans 58 rfl) ?_
  refine r_ladd X (x_dr DX6_digestOfPlans 59 rfl) ?_
  refine r_nmJ (fun v9 ev9 => ?_)
  replace h := h v9 ev9
  refine r_lstore_n X ([(3, .long v9), (0, .ref (ad 0 0 0)), (1, .long a1)]) (x_dr DX6_digestOfPlans 60 rfl) rfl (by decide) rfl ?_
  refine r_ldc2 X mkl_6_307 (x_dr DX6_digestOfPlans 61 rfl) ?_
  refine r_lload_n X (x_dr DX6_digestOfPlans 62 rfl) 0 rfl rfl ?_
  refine r_lmul X (x_dr DX6_digestOfPlans 63 rfl) ?_
  refine r_aload_n X (x_dr DX6_digestOfPlans 64 rfl) 1 rfl rfl ?_
  refine cl6_never X (k6_never h) rfl ml_6_413 ⟨Nat.le_of_ble_eq_true rfl, Nat.le_of_ble_eq_true rfl⟩ (Nat.le_of_ble_eq_true rfl) (x_dr DX6_digestOfPlans 65 rfl) (fun v11 s10 h => ?_)
  refine r_i2l X (x_dr DX6_digestOfPlans 66 rfl) ?_
  refine r_ladd X (x_dr DX6_digestOfPlans 67 rfl) ?_
  refine r_nmJ (fun v12 ev12 => ?_)
  replace h := h v12 ev12
  refine r_lstore_n X ([(3, .long v12), (0, .ref (ad 0 0 0)), (1, .long a1)]) (x_dr DX6_digestOfPlans 68 rfl) rfl (by decide) rfl ?_
  refine r_ldc2 X mkl_6_307 (x_dr DX6_digestOfPlans 69 rfl) ?_
  refine r_lload_n X (x_dr DX6_digestOfPlans 70 rfl) 0 rfl rfl ?_
  refine r_lmul X (x_dr DX6_digestOfPlans 71 rfl) ?_
  refine r_aload_n X (x_dr DX6_digestOfPlans 72 rfl) 1 rfl rfl ?_
  refine r_iconst (v := 5) X (x_dr DX6_digestOfPlans 73 rfl) (by decide) ?_
  refine r_bipush (v := 9) X (x_dr DX6_digestOfPlans 74 rfl) (by decide) ?_
  refine r_iconst (v := 0) X (x_dr DX6_digestOfPlans 75 rfl) (by decide) ?_
  refine cl6_chance X (k6_chance h) rfl ml_6_416 ⟨Nat.le_of_ble_eq_true rfl, Nat.le_of_ble_eq_true rfl⟩ (Nat.le_of_ble_eq_true rfl) (x_dr DX6_digestOfPlans 76 rfl) (fun v14 s13 h => ?_)
  refine r_ladd X (x_dr DX6_digestOfPlans 77 rfl) ?_
  refine r_nmJ (fun v15 ev15 => ?_)
  replace h := h v15 ev15
  refine r_lstore_n X ([(3, .long v15), (0, .ref (ad 0 0 0)), (1, .long a1)]) (x_dr DX6_digestOfPlans 78 rfl) rfl (by decide) rfl ?_
  refine r_ldc2 X mkl_6_307 (x_dr DX6_digestOfPlans 79 rfl) ?_
  refine r_lload_n X (x_dr DX6_digestOfPlans 80 rfl) 0 rfl rfl ?_
  refine r_lmul X (x_dr DX6_digestOfPlans 81 rfl) ?_
  refine r_aload_n X (x_dr DX6_digestOfPlans 82 rfl) 1 rfl rfl ?_
  refine r_iconst (v := 5) X (x_dr DX6_digestOfPlans 83 rfl) (by decide) ?_
  refine r_bipush (v := 9) X (x_dr DX6_digestOfPlans 84 rfl) (by decide) ?_
  refine r_iconst (v := 1) X (x_dr DX6_digestOfPlans 85 rfl) (by decide) ?_
  refine cl6_chance X (k6_chance h) rfl ml_6_416 ⟨Nat.le_of_ble_eq_true rfl, Nat.le_of_ble_eq_true rfl⟩ (Nat.le_of_ble_eq_true rfl) (x_dr DX6_digestOfPlans 86 rfl) (fun v17 s16 h => ?_)
  refine r_ladd X (x_dr DX6_digestOfPlans 87 rfl) ?_
  refine r_nmJ (fun v18 ev18 => ?_)
  replace h := h v18 ev18
  refine r_lstore_n X ([(3, .long v18), (0, .ref (ad 0 0 0)), (1, .long a1)]) (x_dr DX6_digestOfPlans 88 rfl) rfl (by decide) rfl ?_
  refine r_aload_n X (x_dr DX6_digestOfPlans 89 rfl) 1 rfl rfl ?_
  refine r_bipush (v := 7) X (x_dr DX6_digestOfPlans 90 rfl) (by decide) ?_
  refine r_bipush (v := 6) X (x_dr DX6_digestOfPlans 91 rfl) (by decide) ?_
  refine cl6_sitAges X (k6_sitAges h) rfl ml_6_263 ⟨Nat.le_of_ble_eq_true rfl, Nat.le_of_ble_eq_true rfl⟩ (Nat.le_of_ble_eq_true rfl) (x_dr DX6_digestOfPlans 92 rfl) (fun s19 h => ?_)
  refine r_ldc2 X mkl_6_307 (x_dr DX6_digestOfPlans 93 rfl) ?_
  refine r_lload_n X (x_dr DX6_digestOfPlans 94 rfl) 0 rfl rfl ?_
  refine r_lmul X (x_dr DX6_digestOfPlans 95 rfl) ?_
  refine r_aload_n X (x_dr DX6_digestOfPlans 96 rfl) 1 rfl rfl ?_
  refine gf_6_38 X rfl (x_dr DX6_digestOfPlans 97 rfl) ?_
  refine cl2_carriedInAll X (k2_carriedInAll rfl h) rfl ml_6_181 ⟨Nat.le_of_ble_eq_true rfl, Nat.le_of_ble_eq_true rfl⟩ (Nat.le_of_ble_eq_true rfl) (x_dr DX6_digestOfPlans 98 rfl) (fun v21 s20 h => ?_)
  refine r_i2l X (x_dr DX6_digestOfPlans 99 rfl) ?_
  refine r_ladd X (x_dr DX6_digestOfPlans 100 rfl) ?_
  refine r_nmJ (fun v22 ev22 => ?_)
  replace h := h v22 ev22
  refine r_lstore_n X ([(3, .long v22), (0, .ref (ad 0 0 0)), (1, .long a1)]) (x_dr DX6_digestOfPlans 101 rfl) rfl (by decide) rfl ?_
  refine r_ldc2 X mkl_6_307 (x_dr DX6_digestOfPlans 102 rfl) ?_
  refine r_lload_n X (x_dr DX6_digestOfPlans 103 rfl) 0 rfl rfl ?_
  refine r_lmul X (x_dr DX6_digestOfPlans 104 rfl) ?_
  refine r_aload_n X (x_dr DX6_digestOfPlans 105 rfl) 1 rfl rfl ?_
  refine gf_6_38 X rfl (x_dr DX6_digestOfPlans 106 rfl) ?_
  refine cl2_governmentsInAll X (k2_governmentsInAll rfl h) rfl ml_6_178 ⟨Nat.le_of_ble_eq_true rfl, Nat.le_of_ble_eq_true rfl⟩ (Nat.le_of_ble_eq_true rfl) (x_dr DX6_digestOfPlans 107 rfl) (fun v24 s23 h => ?_)
  refine r_i2l X (x_dr DX6_digestOfPlans 108 rfl) ?_
  refine r_ladd X (x_dr DX6_digestOfPlans 109 rfl) ?_
  exact r_lret X rfl (x_dr DX6_digestOfPlans 110 rfl) ⟨_, rfl, h⟩
set_option maxRecDepth 10000 in
theorem w6_digest_L6 {ad : xAd} {E : xE} (X : FX ad E cX6_digest 4 RX6 (some .long) 6 149)   {K : Int64 → xSt → Prop} {Q : Int64 → xSt → Prop} : ∀ (n : Nat) (a1 : Int64) (a3 : Int32) (σ : xSt), d6_digest_L6 K Q n a1 a3 σ → (∀ (a1 : Int64) (s : xSt), K a1 s → KK ad E (qL Q) 31 ([(0, .ref (ad 0 0 0)), (1, .long a1)]) [] s) → KK ad E (qL Q) 6 ([(0, .ref (ad 0 0 0)), (1, .long a1), (3, .int a3)]) [] σ := by
  intro n
  induction n with
  | zero => intro a1 a3 σ h kk; exact h.elim
  | succ n ih =>
    intro a1 a3 σ h kk
    rw [d6_digest_L6] at h
    refine r_iload_n X (x_dr DX6_digest 4 rfl) 2 rfl rfl ?_
    refine r_bipush (v := 7) X (x_dr DX6_digest 5 rfl) (by decide) ?_
    refine r_icmp_gt X 31 (x_dr DX6_digest 6 rfl) (by decide) (fun c2 => ?_) (fun c2 => ?_)
    · replace h := h.1 c2
      refine r_norm X [0, 1] ([(0, .ref (ad 0 0 0)), (1, .long a1)]) rfl ?_
      exact kk _ _ h
    · replace h := h.2 c2
      refine r_ldc2 X mkl_6_307 (x_dr DX6_digest 7 rfl) ?_
      refine r_lload_n X (x_dr DX6_digest 8 rfl) 1 rfl rfl ?_
      refine r_lmul X (x_dr DX6_digest 9 rfl) ?_
      refine r_aload_n X (x_dr DX6_digest 10 rfl) 0 rfl rfl ?_
      refine r_iload_n X (x_dr DX6_digest 11 rfl) 2 rfl rfl ?_
      refine cl6_count X (k6_count h) rfl ml_6_309 ⟨Nat.le_of_ble_eq_true rfl, Nat.le_of_ble_eq_true rfl⟩ (Nat.le_of_ble_eq_true rfl) (x_dr DX6_digest 12 rfl) (fun v4 s3 h => ?_)
      refine r_i2l X (x_dr DX6_digest 13 rfl) ?_
      refine r_ladd X (x_dr DX6_digest 14 rfl) ?_
      refine r_nmJ (fun v5 ev5 => ?_)
      replace h := h v5 ev5
      refine r_lstore_n X ([(1, .long v5), (0, .ref (ad 0 0 0)), (3, .int a3)]) (x_dr DX6_digest 15 rfl) rfl (by decide) rfl ?_
      obtain ⟨v6, ev6⟩ : ∃ z : Int32, z = a3 + 1 := ⟨_, rfl⟩
      replace h := h v6 ev6
      refine r_iinc (v := v6) X ([(3, .int v6), (1, .long v5), (0, .ref (ad 0 0 0))]) 2 (x_dr DX6_digest 16 rfl) rfl (by rw [ev6]; rfl) (by decide) rfl ?_
      refine r_goto X 6 (x_dr DX6_digest 17 rfl) (by decide) ?_
      refine r_norm X [2, 1, 0] ([(0, .ref (ad 0 0 0)), (1, .long v5), (3, .int v6)]) rfl ?_
      exact ih _ _ _ h kk
set_option maxRecDepth 10000 in
theorem k6_digest {ad : xAd} {G : xG} {l : Launch} {σ : xSt} {Q : Int64 → xSt → Prop}  (h : d6_digest σ Q) : MC ad G l yX6_digest cX6_digest 4 (some .long) 6 149 [.ref (ad 0 0 0)] σ (qL Q) := by
  unfold d6_digest at h
  refine x_MC [(0, .ref (ad 0 0 0))] (by decide +kernel) rfl (Nat.le_of_ble_eq_true rfl) ?_
  intro E hG hl X
  replace X : FX ad E cX6_digest 4 RX6 (some .long) 6 149 := X
  refine r_ldc2 X mkl_6_305 (x_dr DX6_digest 0 rfl) ?_
  refine r_nmJ (fun v1 ev1 => ?_)
  replace h := h v1 ev1
  refine r_lstore_n X ([(1, .long v1), (0, .ref (ad 0 0 0))]) (x_dr DX6_digest 1 rfl) rfl (by decide) rfl ?_
  refine r_iconst (v := 0) X (x_dr DX6_digest 2 rfl) (by decide) ?_
  refine r_istore_n X ([(3, .int 0), (1, .long v1), (0, .ref (ad 0 0 0))]) (x_dr DX6_digest 3 rfl) rfl (by decide) rfl ?_
  refine r_norm X [2, 1, 0] ([(0, .ref (ad 0 0 0)), (1, .long v1), (3, .int 0)]) rfl ?_
  refine w6_digest_L6 X  _ _ _ _ h (fun v8 s7 h => ?_)
  refine r_ldc2 X mkl_6_307 (x_dr DX6_digest 18 rfl) ?_
  refine r_lload_n X (x_dr DX6_digest 19 rfl) 1 rfl rfl ?_
  refine r_lmul X (x_dr DX6_digest 20 rfl) ?_
  refine r_aload_n X (x_dr DX6_digest 21 rfl) 0 rfl rfl ?_
  refine r_iconst (v := 0) X (x_dr DX6_digest 22 rfl) (by decide) ?_
  refine cl6_fault X (k6_fault h) rfl ml_6_312 ⟨Nat.le_of_ble_eq_true rfl, Nat.le_of_ble_eq_true rfl⟩ (Nat.le_of_ble_eq_true rfl) (x_dr DX6_digest 23 rfl) (fun v10 s9 h => ?_)
  refine r_i2l X (x_dr DX6_digest 24 rfl) ?_
  refine r_ladd X (x_dr DX6_digest 25 rfl) ?_
  refine r_nmJ (fun v11 ev11 => ?_)
  replace h := h v11 ev11
  refine r_lstore_n X ([(1, .long v11), (0, .ref (ad 0 0 0))]) (x_dr DX6_digest 26 rfl) rfl (by decide) rfl ?_
  refine r_ldc2 X mkl_6_307 (x_dr DX6_digest 27 rfl) ?_
  refine r_lload_n X (x_dr DX6_digest 28 rfl) 0 rfl rfl ?_
  refine r_lmul X (x_dr DX6_digest 29 rfl) ?_
  refine r_aload_n X (x_dr DX6_digest 30 rfl) 1 rfl rfl ?_
  refine r_iconst (v := 1) X (x_dr DX6_digest 31 rfl) (by decide) ?_
  refine cl6_fault X (k6_fault h) rfl ml_6_312 ⟨Nat.le_of_ble_eq_true rfl, Nat.le_of_ble_eq_true rfl⟩ (Nat.le_of_ble_eq_true rfl) (x_dr DX6_digest 32 rfl) (fun v13 s12 h => ?_)
  refine r_i2l X (x_dr DX6_digest 33 rfl) ?_
  refine r_ladd X (x_dr DX6_digest 34 rfl) ?_
  refine r_nmJ (fun v14 ev14 => ?_)
  replace h := h v14 ev14
  refine r_lstore_n X ([(1, .long v14), (0, .ref (ad 0 0 0))]) (x_dr DX6_digest 35 rfl) rfl (by decide) rfl ?_
  refine r_aload_n X (x_dr DX6_digest 36 rfl) 1 rfl rfl ?_
  refine r_lload_n X (x_dr DX6_digest 37 rfl) 0 rfl rfl ?_
  refine cl6_digestOfPlaces X (k6_digestOfPlaces h) rfl ml_6_315 ⟨Nat.le_of_ble_eq_true rfl, Nat.le_of_ble_eq_true rfl⟩ (Nat.le_of_ble_eq_true rfl) (x_dr DX6_digest 38 rfl) (fun v16 s15 h => ?_)
  refine r_lstore_n X ([(1, .long v16), (0, .ref (ad 0 0 0))]) (x_dr DX6_digest 39 rfl) rfl (by decide) rfl ?_
  refine r_aload_n X (x_dr DX6_digest 40 rfl) 1 rfl rfl ?_
  refine r_lload_n X (x_dr DX6_digest 41 rfl) 0 rfl rfl ?_
  refine cl6_digestOfMembers X (k6_digestOfMembers h) rfl ml_6_319 ⟨Nat.le_of_ble_eq_true rfl, Nat.le_of_ble_eq_true rfl⟩ (Nat.le_of_ble_eq_true rfl) (x_dr DX6_digest 42 rfl) (fun v18 s17 h => ?_)
  refine r_lstore_n X ([(1, .long v18), (0, .ref (ad 0 0 0))]) (x_dr DX6_digest 43 rfl) rfl (by decide) rfl ?_
  refine r_aload_n X (x_dr DX6_digest 44 rfl) 1 rfl rfl ?_
  refine r_lload_n X (x_dr DX6_digest 45 rfl) 0 rfl rfl ?_
  refine cl6_digestOfHours X (k6_digestOfHours h) rfl ml_6_322 ⟨Nat.le_of_ble_eq_true rfl, Nat.le_of_ble_eq_true rfl⟩ (Nat.le_of_ble_eq_true rfl) (x_dr DX6_digest 46 rfl) (fun v20 s19 h => ?_)
  refine r_lstore_n X ([(1, .long v20), (0, .ref (ad 0 0 0))]) (x_dr DX6_digest 47 rfl) rfl (by decide) rfl ?_
  refine r_aload_n X (x_dr DX6_digest 48 rfl) 1 rfl rfl ?_
  refine r_lload_n X (x_dr DX6_digest 49 rfl) 0 rfl rfl ?_
  refine cl6_digestOfPlans X (k6_digestOfPlans h) rfl ml_6_325 ⟨Nat.le_of_ble_eq_true rfl, Nat.le_of_ble_eq_true rfl⟩ (Nat.le_of_ble_eq_true rfl) (x_dr DX6_digest 50 rfl) (fun v22 s21 h => ?_)
  exact r_lret X rfl (x_dr DX6_digest 51 rfl) ⟨_, rfl, h⟩
set_option maxRecDepth 10000 in
theorem k7_in {ad : xAd} {G : xG} {l : Launch} {a0 : Int32} {a1 : Int32} {a2 : Int32} {σ : xSt} {Q : Int32 → xSt → Prop}  (h : d7_in a0 a1 a2 σ Q) : MC ad G l yX7_in cX7_in 3 (some .boolean) 0 0 [.int a0, .int a1, .int a2] σ (qZ Q) := by
  unfold d7_in at h
  refine x_MC [(0, .int a0), (1, .int a1), (2, .int a2)] (by decide +kernel) rfl (Nat.le_of_ble_eq_true rfl) ?_
  intro E hG hl X
  replace X : FX ad E cX7_in 3 RX7 (some .boolean) 0 0 := X
  refine r_iload_n X (x_dr DX7_in 0 rfl) 0 rfl rfl ?_
  refine r_iload_n X (x_dr DX7_in 1 rfl) 1 rfl rfl ?_
  refine r_icmp_lt X 14 (x_dr DX7_in 2 rfl) (by decide) (fun c1 => ?_) (fun c1 => ?_)
  · replace h := h.1 c1
    refine r_iconst (v := 0) X (x_dr DX7_in 8 rfl) (by decide) ?_
    exact r_zret X rfl (x_dr DX7_in 9 rfl) (Or.inl rfl) ⟨_, rfl, (Or.inl rfl), h⟩
  · replace h := h.2 c1
    refine r_iload_n X (x_dr DX7_in 3 rfl) 0 rfl rfl ?_
    refine r_iload_n X (x_dr DX7_in 4 rfl) 2 rfl rfl ?_
    refine r_icmp_gt X 14 (x_dr DX7_in 5 rfl) (by decide) (fun c2 => ?_) (fun c2 => ?_)
    · replace h := h.1 c2
      refine r_iconst (v := 0) X (x_dr DX7_in 8 rfl) (by decide) ?_
      exact r_zret X rfl (x_dr DX7_in 9 rfl) (Or.inl rfl) ⟨_, rfl, (Or.inl rfl), h⟩
    · replace h := h.2 c2
      refine r_iconst (v := 1) X (x_dr DX7_in 6 rfl) (by decide) ?_
      refine r_goto X 15 (x_dr DX7_in 7 rfl) (by decide) ?_
      exact r_zret X rfl (x_dr DX7_in 9 rfl) (Or.inr rfl) ⟨_, rfl, (Or.inr rfl), h⟩
set_option maxRecDepth 10000 in
theorem k7_isIn {ad : xAd} {G : xG} {l : Launch} {a0 : Int32} {a1 : Int32} {σ : xSt} {Q : Int32 → xSt → Prop}  (h : d7_isIn a0 a1 σ Q) : MC ad G l yX7_isIn cX7_isIn 2 (some .boolean) 0 0 [.int a0, .int a1] σ (qZ Q) := by
  unfold d7_isIn at h
  refine x_MC [(0, .int a0), (1, .int a1)] (by decide +kernel) rfl (Nat.le_of_ble_eq_true rfl) ?_
  intro E hG hl X
  replace X : FX ad E cX7_isIn 2 RX7 (some .boolean) 0 0 := X
  refine r_iload_n X (x_dr DX7_isIn 0 rfl) 0 rfl rfl ?_
  refine r_iload_n X (x_dr DX7_isIn 1 rfl) 1 rfl rfl ?_
  refine r_ishr X (x_dr DX7_isIn 2 rfl) ?_
  refine r_iconst (v := 1) X (x_dr DX7_isIn 3 rfl) (by decide) ?_
  refine r_iand X (x_dr DX7_isIn 4 rfl) ?_
  refine r_iconst (v := 1) X (x_dr DX7_isIn 5 rfl) (by decide) ?_
  refine r_icmp_ne X 13 (x_dr DX7_isIn 6 rfl) (by decide) (fun c1 => ?_) (fun c1 => ?_)
  · replace h := h.1 c1
    refine r_iconst (v := 0) X (x_dr DX7_isIn 9 rfl) (by decide) ?_
    exact r_zret X rfl (x_dr DX7_isIn 10 rfl) (Or.inl rfl) ⟨_, rfl, (Or.inl rfl), h⟩
  · replace h := h.2 c1
    refine r_iconst (v := 1) X (x_dr DX7_isIn 7 rfl) (by decide) ?_
    refine r_goto X 14 (x_dr DX7_isIn 8 rfl) (by decide) ?_
    exact r_zret X rfl (x_dr DX7_isIn 10 rfl) (Or.inr rfl) ⟨_, rfl, (Or.inr rfl), h⟩
set_option maxRecDepth 10000 in
theorem k7_no {ad : xAd} {G : xG} {l : Launch} {a0 : Int32} {σ : xSt} {Q : Int64 → xSt → Prop}  (h : d7_no a0 σ Q) : MC ad G l yX7_no cX7_no 1 (some .long) 0 0 [.int a0] σ (qL Q) := by
  unfold d7_no at h
  refine x_MC [(0, .int a0)] (by decide +kernel) rfl (Nat.le_of_ble_eq_true rfl) ?_
  intro E hG hl X
  replace X : FX ad E cX7_no 1 RX7 (some .long) 0 0 := X
  refine r_ldc2 X mkl_7_113 (x_dr DX7_no 0 rfl) ?_
  refine r_iload_n X (x_dr DX7_no 1 rfl) 0 rfl rfl ?_
  refine r_i2l X (x_dr DX7_no 2 rfl) ?_
  refine r_lsub X (x_dr DX7_no 3 rfl) ?_
  exact r_lret X rfl (x_dr DX7_no 4 rfl) ⟨_, rfl, h⟩
set_option maxRecDepth 10000 in
theorem w7_lowest_L6 {ad : xAd} {E : xE} (X : FX ad E cX7_lowest 11 RX7 (some .long) 0 0)   {a0 : Int64} {a2 : Int64} {a4 : Int32} {K : Int64 → xSt → Prop} {Q : Int64 → xSt → Prop} : ∀ (n : Nat) (a5 : Int64) (a7 : Int64) (σ : xSt), d7_lowest_L6 a0 a2 a4 K Q n a5 a7 σ → (∀ (a5 : Int64) (s : xSt), K a5 s → KK ad E (qL Q) 31 ([(0, .long a0), (2, .long a2), (4, .int a4), (5, .long a5)]) [] s) → KK ad E (qL Q) 6 ([(0, .long a0), (2, .long a2), (4, .int a4), (5, .long a5), (7, .long a7)]) [] σ := by
  intro n
  induction n with
  | zero => intro a5 a7 σ h kk; exact h.elim
  | succ n ih =>
    intro a5 a7 σ h kk
    rw [d7_lowest_L6] at h
    refine r_lload X (x_dr DX7_lowest 4 rfl) 4 rfl ?_
    refine r_lconst (v := 0) X (x_dr DX7_lowest 5 rfl) (by decide) ?_
    refine r_lcmp X (x_dr DX7_lowest 6 rfl) ?_
    refine r_if_eq X 31 (x_dr DX7_lowest 7 rfl) (by decide) (fun c1 => ?_) (fun c1 => ?_)
    · replace h := h.1 c1
      refine r_norm X [0, 1, 2, 3] ([(0, .long a0), (2, .long a2), (4, .int a4), (5, .long a5)]) rfl ?_
      exact kk _ _ h
    · replace h := h.2 c1
      refine r_lload X (x_dr DX7_lowest 8 rfl) 3 rfl ?_
      refine r_lload X (x_dr DX7_lowest 9 rfl) 4 rfl ?_
      obtain ⟨b2, h⟩ := h
      refine r_lrem X (x_dr DX7_lowest 10 rfl) b2 ?_
      refine r_nmJ (fun v3 ev3 => ?_)
      replace h := h v3 ev3
      refine r_lstore X ([(9, .long v3), (0, .long a0), (2, .long a2), (4, .int a4), (5, .long a5), (7, .long a7)]) (x_dr DX7_lowest 11 rfl) (by decide) rfl ?_
      refine r_lload X (x_dr DX7_lowest 12 rfl) 5 rfl ?_
      refine r_lstore X ([(5, .long a7), (9, .long v3), (0, .long a0), (2, .long a2), (4, .int a4), (7, .long a7)]) (x_dr DX7_lowest 13 rfl) (by decide) rfl ?_
      refine r_lload X (x_dr DX7_lowest 14 rfl) 1 rfl ?_
      refine r_lstore X ([(7, .long v3), (5, .long a7), (9, .long v3), (0, .long a0), (2, .long a2), (4, .int a4)]) (x_dr DX7_lowest 15 rfl) (by decide) rfl ?_
      refine r_goto X 6 (x_dr DX7_lowest 16 rfl) (by decide) ?_
      refine r_norm X [3, 4, 5, 1, 0] ([(0, .long a0), (2, .long a2), (4, .int a4), (5, .long a7), (7, .long v3)]) rfl ?_
      exact ih _ _ _ h kk
set_option maxRecDepth 10000 in
theorem k7_lowest {ad : xAd} {G : xG} {l : Launch} {a0 : Int64} {a2 : Int64} {a4 : Int32} {σ : xSt} {Q : Int64 → xSt → Prop}  (h : d7_lowest a0 a2 a4 σ Q) : MC ad G l yX7_lowest cX7_lowest 11 (some .long) 0 0 [.long a0, .long a2, .int a4] σ (qL Q) := by
  unfold d7_lowest at h
  refine x_MC [(0, .long a0), (2, .long a2), (4, .int a4)] (by decide +kernel) rfl (Nat.le_of_ble_eq_true rfl) ?_
  intro E hG hl X
  replace X : FX ad E cX7_lowest 11 RX7 (some .long) 0 0 := X
  refine r_lload_n X (x_dr DX7_lowest 0 rfl) 0 rfl rfl ?_
  refine r_lstore X ([(5, .long a0), (0, .long a0), (2, .long a2), (4, .int a4)]) (x_dr DX7_lowest 1 rfl) (by decide) rfl ?_
  refine r_lload_n X (x_dr DX7_lowest 2 rfl) 2 rfl rfl ?_
  refine r_lstore X ([(7, .long a2), (5, .long a0), (0, .long a0), (2, .long a2), (4, .int a4)]) (x_dr DX7_lowest 3 rfl) (by decide) rfl ?_
  refine r_norm X [2, 3, 4, 1, 0] ([(0, .long a0), (2, .long a2), (4, .int a4), (5, .long a0), (7, .long a2)]) rfl ?_
  refine w7_lowest_L6 X  _ _ _ _ h (fun v5 s4 h => ?_)
  refine r_iload X (x_dr DX7_lowest 17 rfl) 2 rfl ?_
  refine r_if_ne X 43 (x_dr DX7_lowest 18 rfl) (by decide) (fun c6 => ?_) (fun c6 => ?_)
  · replace h := h.1 c6
    refine r_lload_n X (x_dr DX7_lowest 23 rfl) 1 rfl rfl ?_
    refine r_lload X (x_dr DX7_lowest 24 rfl) 3 rfl ?_
    obtain ⟨b7, h⟩ := h
    refine r_ldiv X (x_dr DX7_lowest 25 rfl) b7 ?_
    exact r_lret X rfl (x_dr DX7_lowest 26 rfl) ⟨_, rfl, h⟩
  · replace h := h.2 c6
    refine r_lload_n X (x_dr DX7_lowest 19 rfl) 0 rfl rfl ?_
    refine r_lload X (x_dr DX7_lowest 20 rfl) 3 rfl ?_
    obtain ⟨b8, h⟩ := h
    refine r_ldiv X (x_dr DX7_lowest 21 rfl) b8 ?_
    refine r_goto X 47 (x_dr DX7_lowest 22 rfl) (by decide) ?_
    exact r_lret X rfl (x_dr DX7_lowest 26 rfl) ⟨_, rfl, h⟩
set_option maxRecDepth 10000 in
theorem k7_isText {ad : xAd} {G : xG} {l : Launch} {a0 : Int32} {σ : xSt} {Q : Int32 → xSt → Prop}  (h : d7_isText a0 σ Q) : MC ad G l yX7_isText cX7_isText 1 (some .boolean) 1 22 [.int a0] σ (qZ Q) := by
  unfold d7_isText at h
  refine x_MC [(0, .int a0)] (by decide +kernel) rfl (Nat.le_of_ble_eq_true rfl) ?_
  intro E hG hl X
  replace X : FX ad E cX7_isText 1 RX7 (some .boolean) 1 22 := X
  refine r_iload_n X (x_dr DX7_isText 0 rfl) 0 rfl rfl ?_
  refine r_iconst (v := 0) X (x_dr DX7_isText 1 rfl) (by decide) ?_
  refine r_iconst (v := 1) X (x_dr DX7_isText 2 rfl) (by decide) ?_
  refine cl7_in X (k7_in h) ml_7_115 ⟨Nat.le_of_ble_eq_true rfl, Nat.le_of_ble_eq_true rfl⟩ (Nat.le_of_ble_eq_true rfl) (x_dr DX7_isText 3 rfl) (fun v2 s1 zv2 h => ?_)
  exact r_zret X rfl (x_dr DX7_isText 4 rfl) zv2 ⟨_, rfl, zv2, h⟩
set_option maxRecDepth 10000 in
theorem k7_isHour {ad : xAd} {G : xG} {l : Launch} {a0 : Int32} {σ : xSt} {Q : Int32 → xSt → Prop}  (h : d7_isHour a0 σ Q) : MC ad G l yX7_isHour cX7_isHour 1 (some .boolean) 1 22 [.int a0] σ (qZ Q) := by
  unfold d7_isHour at h
  refine x_MC [(0, .int a0)] (by decide +kernel) rfl (Nat.le_of_ble_eq_true rfl) ?_
  intro E hG hl X
  replace X : FX ad E cX7_isHour 1 RX7 (some .boolean) 1 22 := X
  refine r_iload_n X (x_dr DX7_isHour 0 rfl) 0 rfl rfl ?_
  refine r_iconst (v := 0) X (x_dr DX7_isHour 1 rfl) (by decide) ?_
  refine r_bipush (v := 19) X (x_dr DX7_isHour 2 rfl) (by decide) ?_
  refine cl7_in X (k7_in h) ml_7_115 ⟨Nat.le_of_ble_eq_true rfl, Nat.le_of_ble_eq_true rfl⟩ (Nat.le_of_ble_eq_true rfl) (x_dr DX7_isHour 3 rfl) (fun v2 s1 zv2 h => ?_)
  exact r_zret X rfl (x_dr DX7_isHour 4 rfl) zv2 ⟨_, rfl, zv2, h⟩
set_option maxRecDepth 10000 in
theorem k7_isPlace {ad : xAd} {G : xG} {l : Launch} {a0 : Int32} {σ : xSt} {Q : Int32 → xSt → Prop}  (h : d7_isPlace a0 σ Q) : MC ad G l yX7_isPlace cX7_isPlace 1 (some .boolean) 1 22 [.int a0] σ (qZ Q) := by
  unfold d7_isPlace at h
  refine x_MC [(0, .int a0)] (by decide +kernel) rfl (Nat.le_of_ble_eq_true rfl) ?_
  intro E hG hl X
  replace X : FX ad E cX7_isPlace 1 RX7 (some .boolean) 1 22 := X
  refine r_iload_n X (x_dr DX7_isPlace 0 rfl) 0 rfl rfl ?_
  refine r_iconst (v := 0) X (x_dr DX7_isPlace 1 rfl) (by decide) ?_
  refine r_bipush (v := 11) X (x_dr DX7_isPlace 2 rfl) (by decide) ?_
  refine cl7_in X (k7_in h) ml_7_115 ⟨Nat.le_of_ble_eq_true rfl, Nat.le_of_ble_eq_true rfl⟩ (Nat.le_of_ble_eq_true rfl) (x_dr DX7_isPlace 3 rfl) (fun v2 s1 zv2 h => ?_)
  exact r_zret X rfl (x_dr DX7_isPlace 4 rfl) zv2 ⟨_, rfl, zv2, h⟩
set_option maxRecDepth 10000 in
theorem k7_type {ad : xAd} {G : xG} {l : Launch} {a1 : Int32} {a2 : Int32} {σ : xSt} {Q : Int32 → xSt → Prop}  (h : d7_type a1 a2 σ Q) : MC ad G l yX7_type cX7_type 3 (some .int) 2 42 [.ref (ad 13 0 0), .int a1, .int a2] σ (qI Q) := by
  unfold d7_type at h
  refine x_MC [(0, .ref (ad 13 0 0)), (1, .int a1), (2, .int a2)] (by decide +kernel) rfl (Nat.le_of_ble_eq_true rfl) ?_
  intro E hG hl X
  replace X : FX ad E cX7_type 3 RX7 (some .int) 2 42 := X
  refine r_iload_n X (x_dr DX7_type 0 rfl) 1 rfl rfl ?_
  refine cl7_isText X (k7_isText h) ml_7_119 ⟨Nat.le_of_ble_eq_true rfl, Nat.le_of_ble_eq_true rfl⟩ (Nat.le_of_ble_eq_true rfl) (x_dr DX7_type 1 rfl) (fun v2 s1 zv2 h => ?_)
  refine r_if_eq X 18 (x_dr DX7_type 2 rfl) (by decide) (fun c3 => ?_) (fun c3 => ?_)
  · replace h := h.1 c3
    refine r_bipush (v := (-2)) X (x_dr DX7_type 8 rfl) (by decide) ?_
    exact r_iret X rfl (x_dr DX7_type 9 rfl) ⟨_, rfl, h⟩
  · replace h := h.2 c3
    refine r_iload_n X (x_dr DX7_type 3 rfl) 2 rfl rfl ?_
    refine r_iconst (v := 0) X (x_dr DX7_type 4 rfl) (by decide) ?_
    refine r_sipush (v := 255) X (x_dr DX7_type 5 rfl) (by decide) ?_
    refine cl7_in X (k7_in h) ml_7_115 ⟨Nat.le_of_ble_eq_true rfl, Nat.le_of_ble_eq_true rfl⟩ (Nat.le_of_ble_eq_true rfl) (x_dr DX7_type 6 rfl) (fun v5 s4 zv5 h => ?_)
    refine r_if_ne X 21 (x_dr DX7_type 7 rfl) (by decide) (fun c6 => ?_) (fun c6 => ?_)
    · replace h := h.1 c6
      refine r_aload_n X (x_dr DX7_type 10 rfl) 0 rfl rfl ?_
      refine gf_7_7 X rfl (x_dr DX7_type 11 rfl) ?_
      refine r_iload_n X (x_dr DX7_type 12 rfl) 1 rfl rfl ?_
      obtain ⟨b7, h⟩ := h
      refine r_iald X rfl rfl b7 (x_dr DX7_type 13 rfl) ?_
      refine r_iload_n X (x_dr DX7_type 14 rfl) 1 rfl rfl ?_
      obtain ⟨j10, ej10, h⟩ := x_jn h
      have Jj10 : ∀ (v9 : Int32), j10 v9 → KK ad E (qI Q) 38 ([(0, .ref (ad 13 0 0)), (1, .int a1), (2, .int a2)]) [.int v9, .int (xA s4 13 0 a1.toNatClampNeg)] s4 := by
        intro v9 h
        rw [ej10] at h
        refine r_icmp_ne X 44 (x_dr DX7_type 19 rfl) (by decide) (fun c11 => ?_) (fun c11 => ?_)
        · replace h := h.1 c11
          refine r_aload_n X (x_dr DX7_type 22 rfl) 0 rfl rfl ?_
          refine gf_7_13 X rfl (x_dr DX7_type 23 rfl) ?_
          refine r_bipush (v := 31) X (x_dr DX7_type 24 rfl) (by decide) ?_
          refine r_iload_n X (x_dr DX7_type 25 rfl) 1 rfl rfl ?_
          refine r_imul X (x_dr DX7_type 26 rfl) ?_
          refine r_aload_n X (x_dr DX7_type 27 rfl) 0 rfl rfl ?_
          refine gf_7_7 X rfl (x_dr DX7_type 28 rfl) ?_
          refine r_iload_n X (x_dr DX7_type 29 rfl) 1 rfl rfl ?_
          obtain ⟨b12, h⟩ := h
          refine r_iald X rfl rfl b12 (x_dr DX7_type 30 rfl) ?_
          refine r_iadd X (x_dr DX7_type 31 rfl) ?_
          refine r_iload_n X (x_dr DX7_type 32 rfl) 2 rfl rfl ?_
          obtain ⟨b13, h⟩ := h
          refine r_iast X rfl rfl b13 (x_dr DX7_type 33 rfl) ?_
          refine r_nmS (fun s14 es14 => ?_)
          replace h := h s14 es14
          refine r_aload_n X (x_dr DX7_type 34 rfl) 0 rfl rfl ?_
          refine gf_7_7 X rfl (x_dr DX7_type 35 rfl) ?_
          refine r_iload_n X (x_dr DX7_type 36 rfl) 1 rfl rfl ?_
          refine r_dup2 X (x_dr DX7_type 37 rfl) rfl rfl ?_
          obtain ⟨b15, h⟩ := h
          refine r_iald X rfl rfl b15 (x_dr DX7_type 38 rfl) ?_
          refine r_iconst (v := 1) X (x_dr DX7_type 39 rfl) (by decide) ?_
          refine r_iadd X (x_dr DX7_type 40 rfl) ?_
          obtain ⟨b16, h⟩ := h
          refine r_iast X rfl rfl b16 (x_dr DX7_type 41 rfl) ?_
          refine r_nmS (fun s17 es17 => ?_)
          replace h := h s17 es17
          refine r_aload_n X (x_dr DX7_type 42 rfl) 0 rfl rfl ?_
          refine gf_7_7 X rfl (x_dr DX7_type 43 rfl) ?_
          refine r_iload_n X (x_dr DX7_type 44 rfl) 1 rfl rfl ?_
          obtain ⟨b18, h⟩ := h
          refine r_iald X rfl rfl b18 (x_dr DX7_type 45 rfl) ?_
          exact r_iret X rfl (x_dr DX7_type 46 rfl) ⟨_, rfl, h⟩
        · replace h := h.2 c11
          refine r_bipush (v := (-4)) X (x_dr DX7_type 20 rfl) (by decide) ?_
          exact r_iret X rfl (x_dr DX7_type 21 rfl) ⟨_, rfl, h⟩
      refine r_if_ne X 36 (x_dr DX7_type 15 rfl) (by decide) (fun c19 => ?_) (fun c19 => ?_)
      · replace h := h.1 c19
        refine r_bipush (v := 31) X (x_dr DX7_type 18 rfl) (by decide) ?_
        refine r_norm X [0, 1, 2] ([(0, .ref (ad 13 0 0)), (1, .int a1), (2, .int a2)]) rfl ?_
        exact Jj10 _ h
      · replace h := h.2 c19
        refine r_bipush (v := 12) X (x_dr DX7_type 16 rfl) (by decide) ?_
        refine r_goto X 38 (x_dr DX7_type 17 rfl) (by decide) ?_
        refine r_norm X [0, 1, 2] ([(0, .ref (ad 13 0 0)), (1, .int a1), (2, .int a2)]) rfl ?_
        exact Jj10 _ h
    · replace h := h.2 c6
      refine r_bipush (v := (-2)) X (x_dr DX7_type 8 rfl) (by decide) ?_
      exact r_iret X rfl (x_dr DX7_type 9 rfl) ⟨_, rfl, h⟩
set_option maxRecDepth 10000 in
theorem k7_wipe {ad : xAd} {G : xG} {l : Launch} {a1 : Int32} {σ : xSt} {Q : Int32 → xSt → Prop}  (h : d7_wipe a1 σ Q) : MC ad G l yX7_wipe cX7_wipe 3 (some .int) 2 42 [.ref (ad 13 0 0), .int a1] σ (qI Q) := by
  unfold d7_wipe at h
  refine x_MC [(0, .ref (ad 13 0 0)), (1, .int a1)] (by decide +kernel) rfl (Nat.le_of_ble_eq_true rfl) ?_
  intro E hG hl X
  replace X : FX ad E cX7_wipe 3 RX7 (some .int) 2 42 := X
  refine r_iload_n X (x_dr DX7_wipe 0 rfl) 1 rfl rfl ?_
  refine cl7_isText X (k7_isText h) ml_7_119 ⟨Nat.le_of_ble_eq_true rfl, Nat.le_of_ble_eq_true rfl⟩ (Nat.le_of_ble_eq_true rfl) (x_dr DX7_wipe 1 rfl) (fun v2 s1 zv2 h => ?_)
  refine r_if_ne X 10 (x_dr DX7_wipe 2 rfl) (by decide) (fun c3 => ?_) (fun c3 => ?_)
  · replace h := h.1 c3
    refine r_aload_n X (x_dr DX7_wipe 5 rfl) 0 rfl rfl ?_
    refine gf_7_7 X rfl (x_dr DX7_wipe 6 rfl) ?_
    refine r_iload_n X (x_dr DX7_wipe 7 rfl) 1 rfl rfl ?_
    obtain ⟨b4, h⟩ := h
    refine r_iald X rfl rfl b4 (x_dr DX7_wipe 8 rfl) ?_
    refine r_nmI (fun v5 ev5 => ?_)
    replace h := h v5 ev5
    refine r_istore_n X ([(2, .int v5), (0, .ref (ad 13 0 0)), (1, .int a1)]) (x_dr DX7_wipe 9 rfl) rfl (by decide) rfl ?_
    refine r_aload_n X (x_dr DX7_wipe 10 rfl) 1 rfl rfl ?_
    refine gf_7_7 X rfl (x_dr DX7_wipe 11 rfl) ?_
    refine r_iload_n X (x_dr DX7_wipe 12 rfl) 2 rfl rfl ?_
    refine r_iconst (v := 0) X (x_dr DX7_wipe 13 rfl) (by decide) ?_
    obtain ⟨b6, h⟩ := h
    refine r_iast X rfl rfl b6 (x_dr DX7_wipe 14 rfl) ?_
    refine r_nmS (fun s7 es7 => ?_)
    replace h := h s7 es7
    refine r_iload_n X (x_dr DX7_wipe 15 rfl) 0 rfl rfl ?_
    exact r_iret X rfl (x_dr DX7_wipe 16 rfl) ⟨_, rfl, h⟩
  · replace h := h.2 c3
    refine r_bipush (v := (-2)) X (x_dr DX7_wipe 3 rfl) (by decide) ?_
    exact r_iret X rfl (x_dr DX7_wipe 4 rfl) ⟨_, rfl, h⟩
set_option maxRecDepth 10000 in
theorem k7_undo {ad : xAd} {G : xG} {l : Launch} {a1 : Int32} {σ : xSt} {Q : Int32 → xSt → Prop}  (h : d7_undo a1 σ Q) : MC ad G l yX7_undo cX7_undo 2 (some .int) 2 42 [.ref (ad 13 0 0), .int a1] σ (qI Q) := by
  unfold d7_undo at h
  refine x_MC [(0, .ref (ad 13 0 0)), (1, .int a1)] (by decide +kernel) rfl (Nat.le_of_ble_eq_true rfl) ?_
  intro E hG hl X
  replace X : FX ad E cX7_undo 2 RX7 (some .int) 2 42 := X
  refine r_iload_n X (x_dr DX7_undo 0 rfl) 1 rfl rfl ?_
  refine cl7_isText X (k7_isText h) ml_7_119 ⟨Nat.le_of_ble_eq_true rfl, Nat.le_of_ble_eq_true rfl⟩ (Nat.le_of_ble_eq_true rfl) (x_dr DX7_undo 1 rfl) (fun v2 s1 zv2 h => ?_)
  refine r_if_ne X 10 (x_dr DX7_undo 2 rfl) (by decide) (fun c3 => ?_) (fun c3 => ?_)
  · replace h := h.1 c3
    refine r_aload_n X (x_dr DX7_undo 5 rfl) 0 rfl rfl ?_
    refine gf_7_7 X rfl (x_dr DX7_undo 6 rfl) ?_
    refine r_iload_n X (x_dr DX7_undo 7 rfl) 1 rfl rfl ?_
    obtain ⟨b4, h⟩ := h
    refine r_iald X rfl rfl b4 (x_dr DX7_undo 8 rfl) ?_
    refine r_if_ne X 22 (x_dr DX7_undo 9 rfl) (by decide) (fun c5 => ?_) (fun c5 => ?_)
    · replace h := h.1 c5
      refine r_aload_n X (x_dr DX7_undo 12 rfl) 0 rfl rfl ?_
      refine gf_7_7 X rfl (x_dr DX7_undo 13 rfl) ?_
      refine r_iload_n X (x_dr DX7_undo 14 rfl) 1 rfl rfl ?_
      refine r_dup2 X (x_dr DX7_undo 15 rfl) rfl rfl ?_
      obtain ⟨b6, h⟩ := h
      refine r_iald X rfl rfl b6 (x_dr DX7_undo 16 rfl) ?_
      refine r_iconst (v := 1) X (x_dr DX7_undo 17 rfl) (by decide) ?_
      refine r_isub X (x_dr DX7_undo 18 rfl) ?_
      obtain ⟨b7, h⟩ := h
      refine r_iast X rfl rfl b7 (x_dr DX7_undo 19 rfl) ?_
      refine r_nmS (fun s8 es8 => ?_)
      replace h := h s8 es8
      refine r_aload_n X (x_dr DX7_undo 20 rfl) 0 rfl rfl ?_
      refine gf_7_7 X rfl (x_dr DX7_undo 21 rfl) ?_
      refine r_iload_n X (x_dr DX7_undo 22 rfl) 1 rfl rfl ?_
      obtain ⟨b9, h⟩ := h
      refine r_iald X rfl rfl b9 (x_dr DX7_undo 23 rfl) ?_
      exact r_iret X rfl (x_dr DX7_undo 24 rfl) ⟨_, rfl, h⟩
    · replace h := h.2 c5
      refine r_bipush (v := (-3)) X (x_dr DX7_undo 10 rfl) (by decide) ?_
      exact r_iret X rfl (x_dr DX7_undo 11 rfl) ⟨_, rfl, h⟩
  · replace h := h.2 c3
    refine r_bipush (v := (-2)) X (x_dr DX7_undo 3 rfl) (by decide) ?_
    exact r_iret X rfl (x_dr DX7_undo 4 rfl) ⟨_, rfl, h⟩
set_option maxRecDepth 10000 in
theorem w7_readsStone_L7 {ad : xAd} {E : xE} (X : FX ad E cX7_readsStone 2 RX7 (some .int) 1 22)   {K : xSt → Prop} {Q : Int32 → xSt → Prop} : ∀ (n : Nat) (a1 : Int32) (σ : xSt), d7_readsStone_L7 K Q n a1 σ → (∀ (s : xSt), K  s → KK ad E (qI Q) 26 ([(0, .ref (ad 13 0 0))]) [] s) → KK ad E (qI Q) 7 ([(0, .ref (ad 13 0 0)), (1, .int a1)]) [] σ := by
  intro n
  induction n with
  | zero => intro a1 σ h kk; exact h.elim
  | succ n ih =>
    intro a1 σ h kk
    rw [d7_readsStone_L7] at h
    refine r_iload_n X (x_dr DX7_readsStone 5 rfl) 1 rfl rfl ?_
    refine r_bipush (v := 12) X (x_dr DX7_readsStone 6 rfl) (by decide) ?_
    refine r_icmp_ge X 26 (x_dr DX7_readsStone 7 rfl) (by decide) (fun c2 => ?_) (fun c2 => ?_)
    · replace h := h.1 c2
      refine r_norm X [0] ([(0, .ref (ad 13 0 0))]) rfl ?_
      exact kk  _ h
    · replace h := h.2 c2
      refine r_aload_n X (x_dr DX7_readsStone 8 rfl) 0 rfl rfl ?_
      refine gf_7_16 X rfl (x_dr DX7_readsStone 9 rfl) ?_
      refine r_iload_n X (x_dr DX7_readsStone 10 rfl) 1 rfl rfl ?_
      refine r_iconst (v := 5) X (x_dr DX7_readsStone 11 rfl) (by decide) ?_
      obtain ⟨b3, h⟩ := h
      refine r_iast X rfl rfl b3 (x_dr DX7_readsStone 12 rfl) ?_
      refine r_nmS (fun s4 es4 => ?_)
      replace h := h s4 es4
      obtain ⟨v5, ev5⟩ : ∃ z : Int32, z = a1 + 1 := ⟨_, rfl⟩
      replace h := h v5 ev5
      refine r_iinc (v := v5) X ([(1, .int v5), (0, .ref (ad 13 0 0))]) 1 (x_dr DX7_readsStone 13 rfl) rfl (by rw [ev5]; rfl) (by decide) rfl ?_
      refine r_goto X 7 (x_dr DX7_readsStone 14 rfl) (by decide) ?_
      refine r_norm X [1, 0] ([(0, .ref (ad 13 0 0)), (1, .int v5)]) rfl ?_
      exact ih _ _ h kk
set_option maxRecDepth 10000 in
theorem w7_readsStone_L28 {ad : xAd} {E : xE} (X : FX ad E cX7_readsStone 2 RX7 (some .int) 1 22)   {K : xSt → Prop} {Q : Int32 → xSt → Prop} : ∀ (n : Nat) (a1 : Int32) (σ : xSt), d7_readsStone_L28 K Q n a1 σ → (∀ (s : xSt), K  s → KK ad E (qI Q) 62 ([(0, .ref (ad 13 0 0))]) [] s) → KK ad E (qI Q) 28 ([(0, .ref (ad 13 0 0)), (1, .int a1)]) [] σ := by
  intro n
  induction n with
  | zero => intro a1 σ h kk; exact h.elim
  | succ n ih =>
    intro a1 σ h kk
    rw [d7_readsStone_L28] at h
    refine r_iload_n X (x_dr DX7_readsStone 17 rfl) 1 rfl rfl ?_
    refine r_aload_n X (x_dr DX7_readsStone 18 rfl) 0 rfl rfl ?_
    refine gf_7_7 X rfl (x_dr DX7_readsStone 19 rfl) ?_
    refine r_iconst (v := 0) X (x_dr DX7_readsStone 20 rfl) (by decide) ?_
    obtain ⟨b7, h⟩ := h
    refine r_iald X rfl rfl b7 (x_dr DX7_readsStone 21 rfl) ?_
    refine r_icmp_ge X 62 (x_dr DX7_readsStone 22 rfl) (by decide) (fun c8 => ?_) (fun c8 => ?_)
    · replace h := h.1 c8
      refine r_norm X [0] ([(0, .ref (ad 13 0 0))]) rfl ?_
      exact kk  _ h
    · replace h := h.2 c8
      refine r_aload_n X (x_dr DX7_readsStone 23 rfl) 0 rfl rfl ?_
      refine gf_7_13 X rfl (x_dr DX7_readsStone 24 rfl) ?_
      refine r_iload_n X (x_dr DX7_readsStone 25 rfl) 1 rfl rfl ?_
      obtain ⟨b9, h⟩ := h
      refine r_iald X rfl rfl b9 (x_dr DX7_readsStone 26 rfl) ?_
      refine r_bipush (v := 48) X (x_dr DX7_readsStone 27 rfl) (by decide) ?_
      refine r_bipush (v := 57) X (x_dr DX7_readsStone 28 rfl) (by decide) ?_
      refine cl7_in X (k7_in h) ml_7_115 ⟨Nat.le_of_ble_eq_true rfl, Nat.le_of_ble_eq_true rfl⟩ (Nat.le_of_ble_eq_true rfl) (x_dr DX7_readsStone 29 rfl) (fun v11 s10 zv11 h => ?_)
      refine r_if_ne X 56 (x_dr DX7_readsStone 30 rfl) (by decide) (fun c12 => ?_) (fun c12 => ?_)
      · replace h := h.1 c12
        obtain ⟨v13, ev13⟩ : ∃ z : Int32, z = a1 + 1 := ⟨_, rfl⟩
        replace h := h v13 ev13
        refine r_iinc (v := v13) X ([(1, .int v13), (0, .ref (ad 13 0 0))]) 1 (x_dr DX7_readsStone 33 rfl) rfl (by rw [ev13]; rfl) (by decide) rfl ?_
        refine r_goto X 28 (x_dr DX7_readsStone 34 rfl) (by decide) ?_
        refine r_norm X [1, 0] ([(0, .ref (ad 13 0 0)), (1, .int v13)]) rfl ?_
        exact ih _ _ h kk
      · replace h := h.2 c12
        refine r_iload_n X (x_dr DX7_readsStone 31 rfl) 1 rfl rfl ?_
        exact r_iret X rfl (x_dr DX7_readsStone 32 rfl) ⟨_, rfl, h⟩
set_option maxRecDepth 10000 in
theorem w7_readsStone_L64 {ad : xAd} {E : xE} (X : FX ad E cX7_readsStone 2 RX7 (some .int) 1 22)   {K : xSt → Prop} {Q : Int32 → xSt → Prop} : ∀ (n : Nat) (a1 : Int32) (σ : xSt), d7_readsStone_L64 K Q n a1 σ → (∀ (s : xSt), K  s → KK ad E (qI Q) 95 ([(0, .ref (ad 13 0 0))]) [] s) → KK ad E (qI Q) 64 ([(0, .ref (ad 13 0 0)), (1, .int a1)]) [] σ := by
  intro n
  induction n with
  | zero => intro a1 σ h kk; exact h.elim
  | succ n ih =>
    intro a1 σ h kk
    rw [d7_readsStone_L64] at h
    refine r_iload_n X (x_dr DX7_readsStone 37 rfl) 1 rfl rfl ?_
    refine r_aload_n X (x_dr DX7_readsStone 38 rfl) 0 rfl rfl ?_
    refine gf_7_7 X rfl (x_dr DX7_readsStone 39 rfl) ?_
    refine r_iconst (v := 0) X (x_dr DX7_readsStone 40 rfl) (by decide) ?_
    obtain ⟨b15, h⟩ := h
    refine r_iald X rfl rfl b15 (x_dr DX7_readsStone 41 rfl) ?_
    refine r_icmp_ge X 95 (x_dr DX7_readsStone 42 rfl) (by decide) (fun c16 => ?_) (fun c16 => ?_)
    · replace h := h.1 c16
      refine r_norm X [0] ([(0, .ref (ad 13 0 0))]) rfl ?_
      exact kk  _ h
    · replace h := h.2 c16
      refine r_aload_n X (x_dr DX7_readsStone 43 rfl) 0 rfl rfl ?_
      refine gf_7_16 X rfl (x_dr DX7_readsStone 44 rfl) ?_
      refine r_iload_n X (x_dr DX7_readsStone 45 rfl) 1 rfl rfl ?_
      refine r_aload_n X (x_dr DX7_readsStone 46 rfl) 0 rfl rfl ?_
      refine gf_7_13 X rfl (x_dr DX7_readsStone 47 rfl) ?_
      refine r_iload_n X (x_dr DX7_readsStone 48 rfl) 1 rfl rfl ?_
      obtain ⟨b17, h⟩ := h
      refine r_iald X rfl rfl b17 (x_dr DX7_readsStone 49 rfl) ?_
      refine r_bipush (v := 48) X (x_dr DX7_readsStone 50 rfl) (by decide) ?_
      refine r_isub X (x_dr DX7_readsStone 51 rfl) ?_
      obtain ⟨b18, h⟩ := h
      refine r_iast X rfl rfl b18 (x_dr DX7_readsStone 52 rfl) ?_
      refine r_nmS (fun s19 es19 => ?_)
      replace h := h s19 es19
      obtain ⟨v20, ev20⟩ : ∃ z : Int32, z = a1 + 1 := ⟨_, rfl⟩
      replace h := h v20 ev20
      refine r_iinc (v := v20) X ([(1, .int v20), (0, .ref (ad 13 0 0))]) 1 (x_dr DX7_readsStone 53 rfl) rfl (by rw [ev20]; rfl) (by decide) rfl ?_
      refine r_goto X 64 (x_dr DX7_readsStone 54 rfl) (by decide) ?_
      refine r_norm X [1, 0] ([(0, .ref (ad 13 0 0)), (1, .int v20)]) rfl ?_
      exact ih _ _ h kk
set_option maxRecDepth 10000 in
theorem k7_readsStone {ad : xAd} {G : xG} {l : Launch} {σ : xSt} {Q : Int32 → xSt → Prop}  (h : d7_readsStone σ Q) : MC ad G l yX7_readsStone cX7_readsStone 2 (some .int) 1 22 [.ref (ad 13 0 0)] σ (qI Q) := by
  unfold d7_readsStone at h
  refine x_MC [(0, .ref (ad 13 0 0))] (by decide +kernel) rfl (Nat.le_of_ble_eq_true rfl) ?_
  intro E hG hl X
  replace X : FX ad E cX7_readsStone 2 RX7 (some .int) 1 22 := X
  refine r_aload_n X (x_dr DX7_readsStone 0 rfl) 0 rfl rfl ?_
  refine r_iconst (v := 0) X (x_dr DX7_readsStone 1 rfl) (by decide) ?_
  refine pf_7_123 X rfl (x_dr DX7_readsStone 2 rfl) ?_
  refine r_nmS (fun s1 es1 => ?_)
  replace h := h s1 es1
  refine r_iconst (v := 0) X (x_dr DX7_readsStone 3 rfl) (by decide) ?_
  refine r_istore_n X ([(1, .int 0), (0, .ref (ad 13 0 0))]) (x_dr DX7_readsStone 4 rfl) rfl (by decide) rfl ?_
  refine r_norm X [1, 0] ([(0, .ref (ad 13 0 0)), (1, .int 0)]) rfl ?_
  refine w7_readsStone_L7 X  _ _ _ h (fun s6 h => ?_)
  refine r_iconst (v := 0) X (x_dr DX7_readsStone 15 rfl) (by decide) ?_
  refine r_istore_n X ([(1, .int 0), (0, .ref (ad 13 0 0))]) (x_dr DX7_readsStone 16 rfl) rfl (by decide) rfl ?_
  refine r_norm X [1, 0] ([(0, .ref (ad 13 0 0)), (1, .int 0)]) rfl ?_
  refine w7_readsStone_L28 X  _ _ _ h (fun s14 h => ?_)
  refine r_iconst (v := 0) X (x_dr DX7_readsStone 35 rfl) (by decide) ?_
  refine r_istore_n X ([(1, .int 0), (0, .ref (ad 13 0 0))]) (x_dr DX7_readsStone 36 rfl) rfl (by decide) rfl ?_
  refine r_norm X [1, 0] ([(0, .ref (ad 13 0 0)), (1, .int 0)]) rfl ?_
  refine w7_readsStone_L64 X  _ _ _ h (fun s21 h => ?_)
  refine r_aload_n X (x_dr DX7_readsStone 55 rfl) 0 rfl rfl ?_
  refine r_aload_n X (x_dr DX7_readsStone 56 rfl) 0 rfl rfl ?_
  refine gf_7_7 X rfl (x_dr DX7_readsStone 57 rfl) ?_
  refine r_iconst (v := 0) X (x_dr DX7_readsStone 58 rfl) (by decide) ?_
  obtain ⟨b22, h⟩ := h
  refine r_iald X rfl rfl b22 (x_dr DX7_readsStone 59 rfl) ?_
  refine pf_7_123 X rfl (x_dr DX7_readsStone 60 rfl) ?_
  refine r_nmS (fun s23 es23 => ?_)
  replace h := h s23 es23
  refine r_iconst (v := (-1)) X (x_dr DX7_readsStone 61 rfl) (by decide) ?_
  exact r_iret X rfl (x_dr DX7_readsStone 62 rfl) ⟨_, rfl, h⟩
set_option maxRecDepth 10000 in
theorem k7_byteAt {ad : xAd} {G : xG} {l : Launch} {a1 : Int32} {σ : xSt} {Q : Int32 → xSt → Prop}  (h : d7_byteAt a1 σ Q) : MC ad G l yX7_byteAt cX7_byteAt 2 (some .int) 0 0 [.ref (ad 13 0 0), .int a1] σ (qI Q) := by
  unfold d7_byteAt at h
  refine x_MC [(0, .ref (ad 13 0 0)), (1, .int a1)] (by decide +kernel) rfl (Nat.le_of_ble_eq_true rfl) ?_
  intro E hG hl X
  replace X : FX ad E cX7_byteAt 2 RX7 (some .int) 0 0 := X
  refine r_iload_n X (x_dr DX7_byteAt 0 rfl) 1 rfl rfl ?_
  refine r_aload_n X (x_dr DX7_byteAt 1 rfl) 0 rfl rfl ?_
  refine gf_7_7 X rfl (x_dr DX7_byteAt 2 rfl) ?_
  refine r_iconst (v := 1) X (x_dr DX7_byteAt 3 rfl) (by decide) ?_
  obtain ⟨b1, h⟩ := h
  refine r_iald X rfl rfl b1 (x_dr DX7_byteAt 4 rfl) ?_
  refine r_icmp_ge X 22 (x_dr DX7_byteAt 5 rfl) (by decide) (fun c2 => ?_) (fun c2 => ?_)
  · replace h := h.1 c2
    refine r_iconst (v := (-1)) X (x_dr DX7_byteAt 13 rfl) (by decide) ?_
    exact r_iret X rfl (x_dr DX7_byteAt 14 rfl) ⟨_, rfl, h⟩
  · replace h := h.2 c2
    refine r_aload_n X (x_dr DX7_byteAt 6 rfl) 0 rfl rfl ?_
    refine gf_7_13 X rfl (x_dr DX7_byteAt 7 rfl) ?_
    refine r_bipush (v := 31) X (x_dr DX7_byteAt 8 rfl) (by decide) ?_
    refine r_iload_n X (x_dr DX7_byteAt 9 rfl) 1 rfl rfl ?_
    refine r_iadd X (x_dr DX7_byteAt 10 rfl) ?_
    obtain ⟨b3, h⟩ := h
    refine r_iald X rfl rfl b3 (x_dr DX7_byteAt 11 rfl) ?_
    refine r_goto X 23 (x_dr DX7_byteAt 12 rfl) (by decide) ?_
    exact r_iret X rfl (x_dr DX7_byteAt 14 rfl) ⟨_, rfl, h⟩
set_option maxRecDepth 10000 in
theorem k7_sortAt {ad : xAd} {G : xG} {l : Launch} {a1 : Int32} {σ : xSt} {Q : Int32 → xSt → Prop}  (h : d7_sortAt a1 σ Q) : MC ad G l yX7_sortAt cX7_sortAt 3 (some .int) 1 21 [.ref (ad 13 0 0), .int a1] σ (qI Q) := by
  unfold d7_sortAt at h
  refine x_MC [(0, .ref (ad 13 0 0)), (1, .int a1)] (by decide +kernel) rfl (Nat.le_of_ble_eq_true rfl) ?_
  intro E hG hl X
  replace X : FX ad E cX7_sortAt 3 RX7 (some .int) 1 21 := X
  refine r_aload_n X (x_dr DX7_sortAt 0 rfl) 0 rfl rfl ?_
  refine r_iload_n X (x_dr DX7_sortAt 1 rfl) 1 rfl rfl ?_
  refine cl7_byteAt X (k7_byteAt h) rfl ml_7_127 ⟨Nat.le_of_ble_eq_true rfl, Nat.le_of_ble_eq_true rfl⟩ (Nat.le_of_ble_eq_true rfl) (x_dr DX7_sortAt 2 rfl) (fun v2 s1 h => ?_)
  refine r_istore_n X ([(2, .int v2), (0, .ref (ad 13 0 0)), (1, .int a1)]) (x_dr DX7_sortAt 3 rfl) rfl (by decide) rfl ?_
  refine r_iload_n X (x_dr DX7_sortAt 4 rfl) 0 rfl rfl ?_
  refine r_bipush (v := 112) X (x_dr DX7_sortAt 5 rfl) (by decide) ?_
  refine r_icmp_ne X 16 (x_dr DX7_sortAt 6 rfl) (by decide) (fun c3 => ?_) (fun c3 => ?_)
  · replace h := h.1 c3
    refine r_iload_n X (x_dr DX7_sortAt 9 rfl) 0 rfl rfl ?_
    refine r_bipush (v := 103) X (x_dr DX7_sortAt 10 rfl) (by decide) ?_
    refine r_icmp_ne X 26 (x_dr DX7_sortAt 11 rfl) (by decide) (fun c4 => ?_) (fun c4 => ?_)
    · replace h := h.1 c4
      refine r_iload_n X (x_dr DX7_sortAt 14 rfl) 0 rfl rfl ?_
      refine r_bipush (v := 111) X (x_dr DX7_sortAt 15 rfl) (by decide) ?_
      refine r_icmp_ne X 36 (x_dr DX7_sortAt 16 rfl) (by decide) (fun c5 => ?_) (fun c5 => ?_)
      · replace h := h.1 c5
        refine r_iconst (v := (-1)) X (x_dr DX7_sortAt 19 rfl) (by decide) ?_
        exact r_iret X rfl (x_dr DX7_sortAt 20 rfl) ⟨_, rfl, h⟩
      · replace h := h.2 c5
        refine r_iconst (v := 2) X (x_dr DX7_sortAt 17 rfl) (by decide) ?_
        refine r_goto X 37 (x_dr DX7_sortAt 18 rfl) (by decide) ?_
        exact r_iret X rfl (x_dr DX7_sortAt 20 rfl) ⟨_, rfl, h⟩
    · replace h := h.2 c4
      refine r_iconst (v := 1) X (x_dr DX7_sortAt 12 rfl) (by decide) ?_
      refine r_goto X 37 (x_dr DX7_sortAt 13 rfl) (by decide) ?_
      exact r_iret X rfl (x_dr DX7_sortAt 20 rfl) ⟨_, rfl, h⟩
  · replace h := h.2 c3
    refine r_iconst (v := 0) X (x_dr DX7_sortAt 7 rfl) (by decide) ?_
    refine r_goto X 37 (x_dr DX7_sortAt 8 rfl) (by decide) ?_
    exact r_iret X rfl (x_dr DX7_sortAt 20 rfl) ⟨_, rfl, h⟩
set_option maxRecDepth 10000 in
theorem k7_readsMember {ad : xAd} {G : xG} {l : Launch} {a1 : Int32} {a2 : Int32} {σ : xSt} {Q : Int32 → xSt → Prop}  (h : d7_readsMember a1 a2 σ Q) : MC ad G l yX7_readsMember cX7_readsMember 4 (some .int) 2 43 [.ref (ad 13 0 0), .int a1, .int a2] σ (qI Q) := by
  unfold d7_readsMember at h
  refine x_MC [(0, .ref (ad 13 0 0)), (1, .int a1), (2, .int a2)] (by decide +kernel) rfl (Nat.le_of_ble_eq_true rfl) ?_
  intro E hG hl X
  replace X : FX ad E cX7_readsMember 4 RX7 (some .int) 2 43 := X
  refine r_iload_n X (x_dr DX7_readsMember 0 rfl) 1 rfl rfl ?_
  refine r_bipush (v := 8) X (x_dr DX7_readsMember 1 rfl) (by decide) ?_
  refine r_icmp_eq X 15 (x_dr DX7_readsMember 2 rfl) (by decide) (fun c1 => ?_) (fun c1 => ?_)
  · replace h := h.1 c1
    refine r_iconst (v := 0) X (x_dr DX7_readsMember 8 rfl) (by decide) ?_
    exact r_iret X rfl (x_dr DX7_readsMember 9 rfl) ⟨_, rfl, h⟩
  · replace h := h.2 c1
    refine r_aload_n X (x_dr DX7_readsMember 3 rfl) 0 rfl rfl ?_
    refine r_iload_n X (x_dr DX7_readsMember 4 rfl) 2 rfl rfl ?_
    refine cl7_sortAt X (k7_sortAt h) rfl ml_7_131 ⟨Nat.le_of_ble_eq_true rfl, Nat.le_of_ble_eq_true rfl⟩ (Nat.le_of_ble_eq_true rfl) (x_dr DX7_readsMember 5 rfl) (fun v3 s2 h => ?_)
    refine r_iconst (v := (-1)) X (x_dr DX7_readsMember 6 rfl) (by decide) ?_
    refine r_icmp_ne X 17 (x_dr DX7_readsMember 7 rfl) (by decide) (fun c4 => ?_) (fun c4 => ?_)
    · replace h := h.1 c4
      refine r_aload_n X (x_dr DX7_readsMember 10 rfl) 0 rfl rfl ?_
      refine r_iload_n X (x_dr DX7_readsMember 11 rfl) 2 rfl rfl ?_
      refine r_iconst (v := 1) X (x_dr DX7_readsMember 12 rfl) (by decide) ?_
      refine r_iadd X (x_dr DX7_readsMember 13 rfl) ?_
      refine cl7_byteAt X (k7_byteAt h) rfl ml_7_127 ⟨Nat.le_of_ble_eq_true rfl, Nat.le_of_ble_eq_true rfl⟩ (Nat.le_of_ble_eq_true rfl) (x_dr DX7_readsMember 14 rfl) (fun v6 s5 h => ?_)
      refine r_bipush (v := 97) X (x_dr DX7_readsMember 15 rfl) (by decide) ?_
      refine r_bipush (v := 108) X (x_dr DX7_readsMember 16 rfl) (by decide) ?_
      refine cl7_in X (k7_in h) ml_7_115 ⟨Nat.le_of_ble_eq_true rfl, Nat.le_of_ble_eq_true rfl⟩ (Nat.le_of_ble_eq_true rfl) (x_dr DX7_readsMember 17 rfl) (fun v8 s7 zv8 h => ?_)
      refine r_if_ne X 36 (x_dr DX7_readsMember 18 rfl) (by decide) (fun c9 => ?_) (fun c9 => ?_)
      · replace h := h.1 c9
        refine r_aload_n X (x_dr DX7_readsMember 21 rfl) 0 rfl rfl ?_
        refine r_iload_n X (x_dr DX7_readsMember 22 rfl) 2 rfl rfl ?_
        refine r_iconst (v := 2) X (x_dr DX7_readsMember 23 rfl) (by decide) ?_
        refine r_iadd X (x_dr DX7_readsMember 24 rfl) ?_
        refine cl7_byteAt X (k7_byteAt h) rfl ml_7_127 ⟨Nat.le_of_ble_eq_true rfl, Nat.le_of_ble_eq_true rfl⟩ (Nat.le_of_ble_eq_true rfl) (x_dr DX7_readsMember 25 rfl) (fun v11 s10 h => ?_)
        refine r_istore_n X ([(3, .int v11), (0, .ref (ad 13 0 0)), (1, .int a1), (2, .int a2)]) (x_dr DX7_readsMember 26 rfl) rfl (by decide) rfl ?_
        refine r_iload_n X (x_dr DX7_readsMember 27 rfl) 0 rfl rfl ?_
        refine r_bipush (v := 117) X (x_dr DX7_readsMember 28 rfl) (by decide) ?_
        refine r_icmp_eq X 58 (x_dr DX7_readsMember 29 rfl) (by decide) (fun c12 => ?_) (fun c12 => ?_)
        · replace h := h.1 c12
          refine r_aload_n X (x_dr DX7_readsMember 35 rfl) 1 rfl rfl ?_
          refine gf_7_19 X rfl (x_dr DX7_readsMember 36 rfl) ?_
          refine r_iload_n X (x_dr DX7_readsMember 37 rfl) 2 rfl rfl ?_
          refine r_aload_n X (x_dr DX7_readsMember 38 rfl) 1 rfl rfl ?_
          refine r_iload_n X (x_dr DX7_readsMember 39 rfl) 3 rfl rfl ?_
          refine cl7_sortAt X (k7_sortAt h) rfl ml_7_131 ⟨Nat.le_of_ble_eq_true rfl, Nat.le_of_ble_eq_true rfl⟩ (Nat.le_of_ble_eq_true rfl) (x_dr DX7_readsMember 40 rfl) (fun v14 s13 h => ?_)
          obtain ⟨b15, h⟩ := h
          refine r_iast X rfl rfl b15 (x_dr DX7_readsMember 41 rfl) ?_
          refine r_nmS (fun s16 es16 => ?_)
          replace h := h s16 es16
          refine r_aload_n X (x_dr DX7_readsMember 42 rfl) 1 rfl rfl ?_
          refine gf_7_22 X rfl (x_dr DX7_readsMember 43 rfl) ?_
          refine r_iload_n X (x_dr DX7_readsMember 44 rfl) 2 rfl rfl ?_
          refine r_aload_n X (x_dr DX7_readsMember 45 rfl) 1 rfl rfl ?_
          refine r_iload_n X (x_dr DX7_readsMember 46 rfl) 3 rfl rfl ?_
          refine r_iconst (v := 1) X (x_dr DX7_readsMember 47 rfl) (by decide) ?_
          refine r_iadd X (x_dr DX7_readsMember 48 rfl) ?_
          refine cl7_byteAt X (k7_byteAt h) rfl ml_7_127 ⟨Nat.le_of_ble_eq_true rfl, Nat.le_of_ble_eq_true rfl⟩ (Nat.le_of_ble_eq_true rfl) (x_dr DX7_readsMember 49 rfl) (fun v18 s17 h => ?_)
          refine r_bipush (v := 97) X (x_dr DX7_readsMember 50 rfl) (by decide) ?_
          refine r_isub X (x_dr DX7_readsMember 51 rfl) ?_
          obtain ⟨b19, h⟩ := h
          refine r_iast X rfl rfl b19 (x_dr DX7_readsMember 52 rfl) ?_
          refine r_nmS (fun s20 es20 => ?_)
          replace h := h s20 es20
          refine r_aload_n X (x_dr DX7_readsMember 53 rfl) 1 rfl rfl ?_
          refine gf_7_25 X rfl (x_dr DX7_readsMember 54 rfl) ?_
          refine r_iload_n X (x_dr DX7_readsMember 55 rfl) 2 rfl rfl ?_
          refine r_iload_n X (x_dr DX7_readsMember 56 rfl) 0 rfl rfl ?_
          refine r_bipush (v := 117) X (x_dr DX7_readsMember 57 rfl) (by decide) ?_
          refine r_icmp_ne X 100 (x_dr DX7_readsMember 58 rfl) (by decide) (fun c21 => ?_) (fun c21 => ?_)
          · replace h := h.1 c21
            refine r_iconst (v := 0) X (x_dr DX7_readsMember 61 rfl) (by decide) ?_
            obtain ⟨b22, h⟩ := h
            refine r_iast X rfl rfl b22 (x_dr DX7_readsMember 62 rfl) ?_
            refine r_nmS (fun s23 es23 => ?_)
            replace h := h s23 es23
            refine r_iconst (v := 3) X (x_dr DX7_readsMember 63 rfl) (by decide) ?_
            exact r_iret X rfl (x_dr DX7_readsMember 64 rfl) ⟨_, rfl, h⟩
          · replace h := h.2 c21
            refine r_iconst (v := 1) X (x_dr DX7_readsMember 59 rfl) (by decide) ?_
            refine r_goto X 101 (x_dr DX7_readsMember 60 rfl) (by decide) ?_
            obtain ⟨b24, h⟩ := h
            refine r_iast X rfl rfl b24 (x_dr DX7_readsMember 62 rfl) ?_
            refine r_nmS (fun s25 es25 => ?_)
            replace h := h s25 es25
            refine r_iconst (v := 3) X (x_dr DX7_readsMember 63 rfl) (by decide) ?_
            exact r_iret X rfl (x_dr DX7_readsMember 64 rfl) ⟨_, rfl, h⟩
        · replace h := h.2 c12
          refine r_iload_n X (x_dr DX7_readsMember 30 rfl) 0 rfl rfl ?_
          refine r_bipush (v := 100) X (x_dr DX7_readsMember 31 rfl) (by decide) ?_
          refine r_icmp_eq X 58 (x_dr DX7_readsMember 32 rfl) (by decide) (fun c26 => ?_) (fun c26 => ?_)
          · replace h := h.1 c26
            refine r_aload_n X (x_dr DX7_readsMember 35 rfl) 1 rfl rfl ?_
            refine gf_7_19 X rfl (x_dr DX7_readsMember 36 rfl) ?_
            refine r_iload_n X (x_dr DX7_readsMember 37 rfl) 2 rfl rfl ?_
            refine r_aload_n X (x_dr DX7_readsMember 38 rfl) 1 rfl rfl ?_
            refine r_iload_n X (x_dr DX7_readsMember 39 rfl) 3 rfl rfl ?_
            refine cl7_sortAt X (k7_sortAt h) rfl ml_7_131 ⟨Nat.le_of_ble_eq_true rfl, Nat.le_of_ble_eq_true rfl⟩ (Nat.le_of_ble_eq_true rfl) (x_dr DX7_readsMember 40 rfl) (fun v28 s27 h => ?_)
            obtain ⟨b29, h⟩ := h
            refine r_iast X rfl rfl b29 (x_dr DX7_readsMember 41 rfl) ?_
            refine r_nmS (fun s30 es30 => ?_)
            replace h := h s30 es30
            refine r_aload_n X (x_dr DX7_readsMember 42 rfl) 1 rfl rfl ?_
            refine gf_7_22 X rfl (x_dr DX7_readsMember 43 rfl) ?_
            refine r_iload_n X (x_dr DX7_readsMember 44 rfl) 2 rfl rfl ?_
            refine r_aload_n X (x_dr DX7_readsMember 45 rfl) 1 rfl rfl ?_
            refine r_iload_n X (x_dr DX7_readsMember 46 rfl) 3 rfl rfl ?_
            refine r_iconst (v := 1) X (x_dr DX7_readsMember 47 rfl) (by decide) ?_
            refine r_iadd X (x_dr DX7_readsMember 48 rfl) ?_
            refine cl7_byteAt X (k7_byteAt h) rfl ml_7_127 ⟨Nat.le_of_ble_eq_true rfl, Nat.le_of_ble_eq_true rfl⟩ (Nat.le_of_ble_eq_true rfl) (x_dr DX7_readsMember 49 rfl) (fun v32 s31 h => ?_)
            refine r_bipush (v := 97) X (x_dr DX7_readsMember 50 rfl) (by decide) ?_
            refine r_isub X (x_dr DX7_readsMember 51 rfl) ?_
            obtain ⟨b33, h⟩ := h
            refine r_iast X rfl rfl b33 (x_dr DX7_readsMember 52 rfl) ?_
            refine r_nmS (fun s34 es34 => ?_)
            replace h := h s34 es34
            refine r_aload_n X (x_dr DX7_readsMember 53 rfl) 1 rfl rfl ?_
            refine gf_7_25 X rfl (x_dr DX7_readsMember 54 rfl) ?_
            refine r_iload_n X (x_dr DX7_readsMember 55 rfl) 2 rfl rfl ?_
            refine r_iload_n X (x_dr DX7_readsMember 56 rfl) 0 rfl rfl ?_
            refine r_bipush (v := 117) X (x_dr DX7_readsMember 57 rfl) (by decide) ?_
            refine r_icmp_ne X 100 (x_dr DX7_readsMember 58 rfl) (by decide) (fun c35 => ?_) (fun c35 => ?_)
            · replace h := h.1 c35
              refine r_iconst (v := 0) X (x_dr DX7_readsMember 61 rfl) (by decide) ?_
              obtain ⟨b36, h⟩ := h
              refine r_iast X rfl rfl b36 (x_dr DX7_readsMember 62 rfl) ?_
              refine r_nmS (fun s37 es37 => ?_)
              replace h := h s37 es37
              refine r_iconst (v := 3) X (x_dr DX7_readsMember 63 rfl) (by decide) ?_
              exact r_iret X rfl (x_dr DX7_readsMember 64 rfl) ⟨_, rfl, h⟩
            · replace h := h.2 c35
              refine r_iconst (v := 1) X (x_dr DX7_readsMember 59 rfl) (by decide) ?_
              refine r_goto X 101 (x_dr DX7_readsMember 60 rfl) (by decide) ?_
              obtain ⟨b38, h⟩ := h
              refine r_iast X rfl rfl b38 (x_dr DX7_readsMember 62 rfl) ?_
              refine r_nmS (fun s39 es39 => ?_)
              replace h := h s39 es39
              refine r_iconst (v := 3) X (x_dr DX7_readsMember 63 rfl) (by decide) ?_
              exact r_iret X rfl (x_dr DX7_readsMember 64 rfl) ⟨_, rfl, h⟩
          · replace h := h.2 c26
            refine r_iconst (v := 2) X (x_dr DX7_readsMember 33 rfl) (by decide) ?_
            exact r_iret X rfl (x_dr DX7_readsMember 34 rfl) ⟨_, rfl, h⟩
      · replace h := h.2 c9
        refine r_iconst (v := 1) X (x_dr DX7_readsMember 19 rfl) (by decide) ?_
        exact r_iret X rfl (x_dr DX7_readsMember 20 rfl) ⟨_, rfl, h⟩
    · replace h := h.2 c4
      refine r_iconst (v := 0) X (x_dr DX7_readsMember 8 rfl) (by decide) ?_
      exact r_iret X rfl (x_dr DX7_readsMember 9 rfl) ⟨_, rfl, h⟩
set_option maxRecDepth 10000 in
theorem w7_readsMembers_L9 {ad : xAd} {E : xE} (X : FX ad E cX7_readsMembers 4 RX7 (some .int) 3 66)   {K : xSt → Prop} {Q : Int32 → xSt → Prop} : ∀ (n : Nat) (a1 : Int32) (a2 : Int32) (σ : xSt), d7_readsMembers_L9 K Q n a1 a2 σ → (∀ (s : xSt), K  s → KK ad E (qI Q) 80 ([]) [] s) → KK ad E (qI Q) 9 ([(0, .ref (ad 13 0 0)), (1, .int a1), (2, .int a2)]) [] σ := by
  intro n
  induction n with
  | zero => intro a1 a2 σ h kk; exact h.elim
  | succ n ih =>
    intro a1 a2 σ h kk
    rw [d7_readsMembers_L9] at h
    refine r_iload_n X (x_dr DX7_readsMembers 7 rfl) 2 rfl rfl ?_
    refine r_aload_n X (x_dr DX7_readsMembers 8 rfl) 0 rfl rfl ?_
    refine gf_7_7 X rfl (x_dr DX7_readsMembers 9 rfl) ?_
    refine r_iconst (v := 1) X (x_dr DX7_readsMembers 10 rfl) (by decide) ?_
    obtain ⟨b2, h⟩ := h
    refine r_iald X rfl rfl b2 (x_dr DX7_readsMembers 11 rfl) ?_
    refine r_icmp_lt X 23 (x_dr DX7_readsMembers 12 rfl) (by decide) (fun c3 => ?_) (fun c3 => ?_)
    · replace h := h.1 c3
      refine r_aload_n X (x_dr DX7_readsMembers 15 rfl) 0 rfl rfl ?_
      refine r_iload_n X (x_dr DX7_readsMembers 16 rfl) 1 rfl rfl ?_
      refine r_iload_n X (x_dr DX7_readsMembers 17 rfl) 2 rfl rfl ?_
      refine cl7_readsMember X (k7_readsMember h) rfl ml_7_137 ⟨Nat.le_of_ble_eq_true rfl, Nat.le_of_ble_eq_true rfl⟩ (Nat.le_of_ble_eq_true rfl) (x_dr DX7_readsMembers 18 rfl) (fun v5 s4 h => ?_)
      refine r_istore_n X ([(3, .int v5), (0, .ref (ad 13 0 0)), (1, .int a1), (2, .int a2)]) (x_dr DX7_readsMembers 19 rfl) rfl (by decide) rfl ?_
      refine r_iload_n X (x_dr DX7_readsMembers 20 rfl) 0 rfl rfl ?_
      refine r_iconst (v := 3) X (x_dr DX7_readsMembers 21 rfl) (by decide) ?_
      refine r_icmp_ge X 39 (x_dr DX7_readsMembers 22 rfl) (by decide) (fun c6 => ?_) (fun c6 => ?_)
      · replace h := h.1 c6
        obtain ⟨v7, ev7⟩ : ∃ z : Int32, z = a1 + 1 := ⟨_, rfl⟩
        replace h := h v7 ev7
        refine r_iinc (v := v7) X ([(1, .int v7), (3, .int v5), (0, .ref (ad 13 0 0)), (2, .int a2)]) 2 (x_dr DX7_readsMembers 27 rfl) rfl (by rw [ev7]; rfl) (by decide) rfl ?_
        obtain ⟨v8, ev8⟩ : ∃ z : Int32, z = a2 + 3 := ⟨_, rfl⟩
        replace h := h v8 ev8
        refine r_iinc (v := v8) X ([(2, .int v8), (1, .int v7), (3, .int v5), (0, .ref (ad 13 0 0))]) 3 (x_dr DX7_readsMembers 28 rfl) rfl (by rw [ev8]; rfl) (by decide) rfl ?_
        refine r_iload_n X (x_dr DX7_readsMembers 29 rfl) 0 rfl rfl ?_
        refine r_aload_n X (x_dr DX7_readsMembers 30 rfl) 3 rfl rfl ?_
        refine gf_7_7 X rfl (x_dr DX7_readsMembers 31 rfl) ?_
        refine r_iconst (v := 1) X (x_dr DX7_readsMembers 32 rfl) (by decide) ?_
        obtain ⟨b9, h⟩ := h
        refine r_iald X rfl rfl b9 (x_dr DX7_readsMembers 33 rfl) ?_
        refine r_icmp_ne X 62 (x_dr DX7_readsMembers 34 rfl) (by decide) (fun c10 => ?_) (fun c10 => ?_)
        · replace h := h.1 c10
          refine r_aload_n X (x_dr DX7_readsMembers 40 rfl) 3 rfl rfl ?_
          refine r_iload_n X (x_dr DX7_readsMembers 41 rfl) 0 rfl rfl ?_
          refine cl7_byteAt X (k7_byteAt h) rfl ml_7_127 ⟨Nat.le_of_ble_eq_true rfl, Nat.le_of_ble_eq_true rfl⟩ (Nat.le_of_ble_eq_true rfl) (x_dr DX7_readsMembers 42 rfl) (fun v12 s11 h => ?_)
          refine r_bipush (v := 59) X (x_dr DX7_readsMembers 43 rfl) (by decide) ?_
          refine r_icmp_eq X 74 (x_dr DX7_readsMembers 44 rfl) (by decide) (fun c13 => ?_) (fun c13 => ?_)
          · replace h := h.1 c13
            obtain ⟨v14, ev14⟩ : ∃ z : Int32, z = v8 + 1 := ⟨_, rfl⟩
            replace h := h v14 ev14
            refine r_iinc (v := v14) X ([(2, .int v14), (1, .int v7), (3, .int v5), (0, .ref (ad 13 0 0))]) 0 (x_dr DX7_readsMembers 47 rfl) rfl (by rw [ev14]; rfl) (by decide) rfl ?_
            refine r_goto X 9 (x_dr DX7_readsMembers 48 rfl) (by decide) ?_
            refine r_norm X [3, 1, 0] ([(0, .ref (ad 13 0 0)), (1, .int v7), (2, .int v14)]) rfl ?_
            exact ih _ _ _ h kk
          · replace h := h.2 c13
            refine r_iload_n X (x_dr DX7_readsMembers 45 rfl) 0 rfl rfl ?_
            exact r_iret X rfl (x_dr DX7_readsMembers 46 rfl) ⟨_, rfl, h⟩
        · replace h := h.2 c10
          refine r_aload_n X (x_dr DX7_readsMembers 35 rfl) 3 rfl rfl ?_
          refine r_iload_n X (x_dr DX7_readsMembers 36 rfl) 1 rfl rfl ?_
          refine pf_7_134 X rfl (x_dr DX7_readsMembers 37 rfl) ?_
          refine r_nmS (fun s15 es15 => ?_)
          replace h := h s15 es15
          refine r_iconst (v := (-1)) X (x_dr DX7_readsMembers 38 rfl) (by decide) ?_
          exact r_iret X rfl (x_dr DX7_readsMembers 39 rfl) ⟨_, rfl, h⟩
      · replace h := h.2 c6
        refine r_iload_n X (x_dr DX7_readsMembers 23 rfl) 3 rfl rfl ?_
        refine r_iload_n X (x_dr DX7_readsMembers 24 rfl) 0 rfl rfl ?_
        refine r_iadd X (x_dr DX7_readsMembers 25 rfl) ?_
        exact r_iret X rfl (x_dr DX7_readsMembers 26 rfl) ⟨_, rfl, h⟩
    · replace h := h.2 c3
      refine r_iload_n X (x_dr DX7_readsMembers 13 rfl) 2 rfl rfl ?_
      refine r_if_le X 80 (x_dr DX7_readsMembers 14 rfl) (by decide) (fun c16 => ?_) (fun c16 => ?_)
      · replace h := h.1 c16
        refine r_norm X [] ([]) rfl ?_
        exact kk  _ h
      · replace h := h.2 c16
        refine r_aload_n X (x_dr DX7_readsMembers 15 rfl) 0 rfl rfl ?_
        refine r_iload_n X (x_dr DX7_readsMembers 16 rfl) 1 rfl rfl ?_
        refine r_iload_n X (x_dr DX7_readsMembers 17 rfl) 2 rfl rfl ?_
        refine cl7_readsMember X (k7_readsMember h) rfl ml_7_137 ⟨Nat.le_of_ble_eq_true rfl, Nat.le_of_ble_eq_true rfl⟩ (Nat.le_of_ble_eq_true rfl) (x_dr DX7_readsMembers 18 rfl) (fun v18 s17 h => ?_)
        refine r_istore_n X ([(3, .int v18), (0, .ref (ad 13 0 0)), (1, .int a1), (2, .int a2)]) (x_dr DX7_readsMembers 19 rfl) rfl (by decide) rfl ?_
        refine r_iload_n X (x_dr DX7_readsMembers 20 rfl) 0 rfl rfl ?_
        refine r_iconst (v := 3) X (x_dr DX7_readsMembers 21 rfl) (by decide) ?_
        refine r_icmp_ge X 39 (x_dr DX7_readsMembers 22 rfl) (by decide) (fun c19 => ?_) (fun c19 => ?_)
        · replace h := h.1 c19
          obtain ⟨v20, ev20⟩ : ∃ z : Int32, z = a1 + 1 := ⟨_, rfl⟩
          replace h := h v20 ev20
          refine r_iinc (v := v20) X ([(1, .int v20), (3, .int v18), (0, .ref (ad 13 0 0)), (2, .int a2)]) 2 (x_dr DX7_readsMembers 27 rfl) rfl (by rw [ev20]; rfl) (by decide) rfl ?_
          obtain ⟨v21, ev21⟩ : ∃ z : Int32, z = a2 + 3 := ⟨_, rfl⟩
          replace h := h v21 ev21
          refine r_iinc (v := v21) X ([(2, .int v21), (1, .int v20), (3, .int v18), (0, .ref (ad 13 0 0))]) 3 (x_dr DX7_readsMembers 28 rfl) rfl (by rw [ev21]; rfl) (by decide) rfl ?_
          refine r_iload_n X (x_dr DX7_readsMembers 29 rfl) 0 rfl rfl ?_
          refine r_aload_n X (x_dr DX7_readsMembers 30 rfl) 3 rfl rfl ?_
          refine gf_7_7 X rfl (x_dr DX7_readsMembers 31 rfl) ?_
          refine r_iconst (v := 1) X (x_dr DX7_readsMembers 32 rfl) (by decide) ?_
          obtain ⟨b22, h⟩ := h
          refine r_iald X rfl rfl b22 (x_dr DX7_readsMembers 33 rfl) ?_
          refine r_icmp_ne X 62 (x_dr DX7_readsMembers 34 rfl) (by decide) (fun c23 => ?_) (fun c23 => ?_)
          · replace h := h.1 c23
            refine r_aload_n X (x_dr DX7_readsMembers 40 rfl) 3 rfl rfl ?_
            refine r_iload_n X (x_dr DX7_readsMembers 41 rfl) 0 rfl rfl ?_
            refine cl7_byteAt X (k7_byteAt h) rfl ml_7_127 ⟨Nat.le_of_ble_eq_true rfl, Nat.le_of_ble_eq_true rfl⟩ (Nat.le_of_ble_eq_true rfl) (x_dr DX7_readsMembers 42 rfl) (fun v25 s24 h => ?_)
            refine r_bipush (v := 59) X (x_dr DX7_readsMembers 43 rfl) (by decide) ?_
            refine r_icmp_eq X 74 (x_dr DX7_readsMembers 44 rfl) (by decide) (fun c26 => ?_) (fun c26 => ?_)
            · replace h := h.1 c26
              obtain ⟨v27, ev27⟩ : ∃ z : Int32, z = v21 + 1 := ⟨_, rfl⟩
              replace h := h v27 ev27
              refine r_iinc (v := v27) X ([(2, .int v27), (1, .int v20), (3, .int v18), (0, .ref (ad 13 0 0))]) 0 (x_dr DX7_readsMembers 47 rfl) rfl (by rw [ev27]; rfl) (by decide) rfl ?_
              refine r_goto X 9 (x_dr DX7_readsMembers 48 rfl) (by decide) ?_
              refine r_norm X [3, 1, 0] ([(0, .ref (ad 13 0 0)), (1, .int v20), (2, .int v27)]) rfl ?_
              exact ih _ _ _ h kk
            · replace h := h.2 c26
              refine r_iload_n X (x_dr DX7_readsMembers 45 rfl) 0 rfl rfl ?_
              exact r_iret X rfl (x_dr DX7_readsMembers 46 rfl) ⟨_, rfl, h⟩
          · replace h := h.2 c23
            refine r_aload_n X (x_dr DX7_readsMembers 35 rfl) 3 rfl rfl ?_
            refine r_iload_n X (x_dr DX7_readsMembers 36 rfl) 1 rfl rfl ?_
            refine pf_7_134 X rfl (x_dr DX7_readsMembers 37 rfl) ?_
            refine r_nmS (fun s28 es28 => ?_)
            replace h := h s28 es28
            refine r_iconst (v := (-1)) X (x_dr DX7_readsMembers 38 rfl) (by decide) ?_
            exact r_iret X rfl (x_dr DX7_readsMembers 39 rfl) ⟨_, rfl, h⟩
        · replace h := h.2 c19
          refine r_iload_n X (x_dr DX7_readsMembers 23 rfl) 3 rfl rfl ?_
          refine r_iload_n X (x_dr DX7_readsMembers 24 rfl) 0 rfl rfl ?_
          refine r_iadd X (x_dr DX7_readsMembers 25 rfl) ?_
          exact r_iret X rfl (x_dr DX7_readsMembers 26 rfl) ⟨_, rfl, h⟩
set_option maxRecDepth 10000 in
theorem k7_readsMembers {ad : xAd} {G : xG} {l : Launch} {σ : xSt} {Q : Int32 → xSt → Prop}  (h : d7_readsMembers σ Q) : MC ad G l yX7_readsMembers cX7_readsMembers 4 (some .int) 3 66 [.ref (ad 13 0 0)] σ (qI Q) := by
  unfold d7_readsMembers at h
  refine x_MC [(0, .ref (ad 13 0 0))] (by decide +kernel) rfl (Nat.le_of_ble_eq_true rfl) ?_
  intro E hG hl X
  replace X : FX ad E cX7_readsMembers 4 RX7 (some .int) 3 66 := X
  refine r_iconst (v := 0) X (x_dr DX7_readsMembers 0 rfl) (by decide) ?_
  refine r_istore_n X ([(1, .int 0), (0, .ref (ad 13 0 0))]) (x_dr DX7_readsMembers 1 rfl) rfl (by decide) rfl ?_
  refine r_iconst (v := 0) X (x_dr DX7_readsMembers 2 rfl) (by decide) ?_
  refine r_istore_n X ([(2, .int 0), (1, .int 0), (0, .ref (ad 13 0 0))]) (x_dr DX7_readsMembers 3 rfl) rfl (by decide) rfl ?_
  refine r_aload_n X (x_dr DX7_readsMembers 4 rfl) 2 rfl rfl ?_
  refine r_iconst (v := 0) X (x_dr DX7_readsMembers 5 rfl) (by decide) ?_
  refine pf_7_134 X rfl (x_dr DX7_readsMembers 6 rfl) ?_
  refine r_nmS (fun s1 es1 => ?_)
  replace h := h s1 es1
  refine r_norm X [2, 1, 0] ([(0, .ref (ad 13 0 0)), (1, .int 0), (2, .int 0)]) rfl ?_
  refine w7_readsMembers_L9 X  _ _ _ _ h (fun s29 h => ?_)
  refine r_iconst (v := (-1)) X (x_dr DX7_readsMembers 49 rfl) (by decide) ?_
  exact r_iret X rfl (x_dr DX7_readsMembers 50 rfl) ⟨_, rfl, h⟩
set_option maxRecDepth 10000 in
theorem k7_faultOf {ad : xAd} {G : xG} {l : Launch} {a1 : Int32} {σ : xSt} {Q : Int32 → xSt → Prop}  (h : d7_faultOf a1 σ Q) : MC ad G l yX7_faultOf cX7_faultOf 4 (some .int) 4 89 [.ref (ad 13 0 0), .int a1] σ (qI Q) := by
  unfold d7_faultOf at h
  refine x_MC [(0, .ref (ad 13 0 0)), (1, .int a1)] (by decide +kernel) rfl (Nat.le_of_ble_eq_true rfl) ?_
  intro E hG hl X
  replace X : FX ad E cX7_faultOf 4 RX7 (some .int) 4 89 := X
  refine r_aload_n X (x_dr DX7_faultOf 0 rfl) 0 rfl rfl ?_
  refine cl7_readsStone X (k7_readsStone h) rfl ml_7_141 ⟨Nat.le_of_ble_eq_true rfl, Nat.le_of_ble_eq_true rfl⟩ (Nat.le_of_ble_eq_true rfl) (x_dr DX7_faultOf 1 rfl) (fun v2 s1 h => ?_)
  refine r_istore_n X ([(2, .int v2), (0, .ref (ad 13 0 0)), (1, .int a1)]) (x_dr DX7_faultOf 2 rfl) rfl (by decide) rfl ?_
  refine r_aload_n X (x_dr DX7_faultOf 3 rfl) 1 rfl rfl ?_
  refine cl7_readsMembers X (k7_readsMembers h) rfl ml_7_145 ⟨Nat.le_of_ble_eq_true rfl, Nat.le_of_ble_eq_true rfl⟩ (Nat.le_of_ble_eq_true rfl) (x_dr DX7_faultOf 4 rfl) (fun v4 s3 h => ?_)
  refine r_istore_n X ([(3, .int v4), (2, .int v2), (0, .ref (ad 13 0 0)), (1, .int a1)]) (x_dr DX7_faultOf 5 rfl) rfl (by decide) rfl ?_
  refine r_iload_n X (x_dr DX7_faultOf 6 rfl) 3 rfl rfl ?_
  refine r_if_ne X 18 (x_dr DX7_faultOf 7 rfl) (by decide) (fun c5 => ?_) (fun c5 => ?_)
  · replace h := h.1 c5
    refine r_iload_n X (x_dr DX7_faultOf 10 rfl) 0 rfl rfl ?_
    exact r_iret X rfl (x_dr DX7_faultOf 11 rfl) ⟨_, rfl, h⟩
  · replace h := h.2 c5
    refine r_iload_n X (x_dr DX7_faultOf 8 rfl) 1 rfl rfl ?_
    refine r_goto X 19 (x_dr DX7_faultOf 9 rfl) (by decide) ?_
    exact r_iret X rfl (x_dr DX7_faultOf 11 rfl) ⟨_, rfl, h⟩
set_option maxRecDepth 10000 in
theorem k7_reads {ad : xAd} {G : xG} {l : Launch} {σ : xSt} {Q : xSt → Prop}  (h : d7_reads σ Q) : MC ad G l yX7_reads cX7_reads 2 none 5 112 [.ref (ad 13 0 0)] σ (qV Q) := by
  unfold d7_reads at h
  refine x_MC [(0, .ref (ad 13 0 0))] (by decide +kernel) rfl (Nat.le_of_ble_eq_true rfl) ?_
  intro E hG hl X
  replace X : FX ad E cX7_reads 2 RX7 none 5 112 := X
  refine r_aload_n X (x_dr DX7_reads 0 rfl) 0 rfl rfl ?_
  refine r_iconst (v := 0) X (x_dr DX7_reads 1 rfl) (by decide) ?_
  refine cl7_faultOf X (k7_faultOf h) rfl ml_7_148 ⟨Nat.le_of_ble_eq_true rfl, Nat.le_of_ble_eq_true rfl⟩ (Nat.le_of_ble_eq_true rfl) (x_dr DX7_reads 2 rfl) (fun v2 s1 h => ?_)
  refine r_istore_n X ([(1, .int v2), (0, .ref (ad 13 0 0))]) (x_dr DX7_reads 3 rfl) rfl (by decide) rfl ?_
  exact r_vret X rfl (x_dr DX7_reads 4 rfl) ⟨rfl, h⟩
set_option maxRecDepth 10000 in
theorem k7_fault {ad : xAd} {G : xG} {l : Launch} {a1 : Int32} {σ : xSt} {Q : Int32 → xSt → Prop}  (h : d7_fault a1 σ Q) : MC ad G l yX7_fault cX7_fault 2 (some .int) 5 112 [.ref (ad 13 0 0), .int a1] σ (qI Q) := by
  unfold d7_fault at h
  refine x_MC [(0, .ref (ad 13 0 0)), (1, .int a1)] (by decide +kernel) rfl (Nat.le_of_ble_eq_true rfl) ?_
  intro E hG hl X
  replace X : FX ad E cX7_fault 2 RX7 (some .int) 5 112 := X
  refine r_iload_n X (x_dr DX7_fault 0 rfl) 1 rfl rfl ?_
  refine cl7_isText X (k7_isText h) ml_7_119 ⟨Nat.le_of_ble_eq_true rfl, Nat.le_of_ble_eq_true rfl⟩ (Nat.le_of_ble_eq_true rfl) (x_dr DX7_fault 1 rfl) (fun v2 s1 zv2 h => ?_)
  refine r_if_eq X 15 (x_dr DX7_fault 2 rfl) (by decide) (fun c3 => ?_) (fun c3 => ?_)
  · replace h := h.1 c3
    refine r_bipush (v := (-2)) X (x_dr DX7_fault 7 rfl) (by decide) ?_
    exact r_iret X rfl (x_dr DX7_fault 8 rfl) ⟨_, rfl, h⟩
  · replace h := h.2 c3
    refine r_aload_n X (x_dr DX7_fault 3 rfl) 0 rfl rfl ?_
    refine r_iload_n X (x_dr DX7_fault 4 rfl) 1 rfl rfl ?_
    refine cl7_faultOf X (k7_faultOf h) rfl ml_7_148 ⟨Nat.le_of_ble_eq_true rfl, Nat.le_of_ble_eq_true rfl⟩ (Nat.le_of_ble_eq_true rfl) (x_dr DX7_fault 5 rfl) (fun v5 s4 h => ?_)
    refine r_goto X 17 (x_dr DX7_fault 6 rfl) (by decide) ?_
    exact r_iret X rfl (x_dr DX7_fault 8 rfl) ⟨_, rfl, h⟩
set_option maxRecDepth 10000 in
theorem k7_isMember {ad : xAd} {G : xG} {l : Launch} {a1 : Int32} {σ : xSt} {Q : Int32 → xSt → Prop}  (h : d7_isMember a1 σ Q) : MC ad G l yX7_isMember cX7_isMember 2 (some .boolean) 6 133 [.ref (ad 13 0 0), .int a1] σ (qZ Q) := by
  unfold d7_isMember at h
  refine x_MC [(0, .ref (ad 13 0 0)), (1, .int a1)] (by decide +kernel) rfl (Nat.le_of_ble_eq_true rfl) ?_
  intro E hG hl X
  replace X : FX ad E cX7_isMember 2 RX7 (some .boolean) 6 133 := X
  refine r_aload_n X (x_dr DX7_isMember 0 rfl) 0 rfl rfl ?_
  refine cl7_reads X (k7_reads h) rfl ml_7_151 ⟨Nat.le_of_ble_eq_true rfl, Nat.le_of_ble_eq_true rfl⟩ (Nat.le_of_ble_eq_true rfl) (x_dr DX7_isMember 1 rfl) (fun s1 h => ?_)
  refine r_iload_n X (x_dr DX7_isMember 2 rfl) 1 rfl rfl ?_
  refine r_iconst (v := 0) X (x_dr DX7_isMember 3 rfl) (by decide) ?_
  refine r_aload_n X (x_dr DX7_isMember 4 rfl) 0 rfl rfl ?_
  refine gf_7_134 X rfl (x_dr DX7_isMember 5 rfl) ?_
  refine r_iconst (v := 1) X (x_dr DX7_isMember 6 rfl) (by decide) ?_
  refine r_isub X (x_dr DX7_isMember 7 rfl) ?_
  refine cl7_in X (k7_in h) ml_7_115 ⟨Nat.le_of_ble_eq_true rfl, Nat.le_of_ble_eq_true rfl⟩ (Nat.le_of_ble_eq_true rfl) (x_dr DX7_isMember 8 rfl) (fun v3 s2 zv3 h => ?_)
  exact r_zret X rfl (x_dr DX7_isMember 9 rfl) zv3 ⟨_, rfl, zv3, h⟩
set_option maxRecDepth 10000 in
theorem k7_stoneOf {ad : xAd} {G : xG} {l : Launch} {a1 : Int32} {σ : xSt} {Q : Int32 → xSt → Prop}  (h : d7_stoneOf a1 σ Q) : MC ad G l yX7_stoneOf cX7_stoneOf 2 (some .int) 6 133 [.ref (ad 13 0 0), .int a1] σ (qI Q) := by
  unfold d7_stoneOf at h
  refine x_MC [(0, .ref (ad 13 0 0)), (1, .int a1)] (by decide +kernel) rfl (Nat.le_of_ble_eq_true rfl) ?_
  intro E hG hl X
  replace X : FX ad E cX7_stoneOf 2 RX7 (some .int) 6 133 := X
  refine r_aload_n X (x_dr DX7_stoneOf 0 rfl) 0 rfl rfl ?_
  refine cl7_reads X (k7_reads h) rfl ml_7_151 ⟨Nat.le_of_ble_eq_true rfl, Nat.le_of_ble_eq_true rfl⟩ (Nat.le_of_ble_eq_true rfl) (x_dr DX7_stoneOf 1 rfl) (fun s1 h => ?_)
  refine r_aload_n X (x_dr DX7_stoneOf 2 rfl) 0 rfl rfl ?_
  refine gf_7_16 X rfl (x_dr DX7_stoneOf 3 rfl) ?_
  refine r_iload_n X (x_dr DX7_stoneOf 4 rfl) 1 rfl rfl ?_
  obtain ⟨b2, h⟩ := h
  refine r_iald X rfl rfl b2 (x_dr DX7_stoneOf 5 rfl) ?_
  exact r_iret X rfl (x_dr DX7_stoneOf 6 rfl) ⟨_, rfl, h⟩
set_option maxRecDepth 10000 in
theorem k7_stone {ad : xAd} {G : xG} {l : Launch} {a1 : Int32} {σ : xSt} {Q : Int32 → xSt → Prop}  (h : d7_stone a1 σ Q) : MC ad G l yX7_stone cX7_stone 2 (some .int) 7 154 [.ref (ad 13 0 0), .int a1] σ (qI Q) := by
  unfold d7_stone at h
  refine x_MC [(0, .ref (ad 13 0 0)), (1, .int a1)] (by decide +kernel) rfl (Nat.le_of_ble_eq_true rfl) ?_
  intro E hG hl X
  replace X : FX ad E cX7_stone 2 RX7 (some .int) 7 154 := X
  refine r_iload_n X (x_dr DX7_stone 0 rfl) 1 rfl rfl ?_
  refine cl7_isPlace X (k7_isPlace h) ml_7_154 ⟨Nat.le_of_ble_eq_true rfl, Nat.le_of_ble_eq_true rfl⟩ (Nat.le_of_ble_eq_true rfl) (x_dr DX7_stone 1 rfl) (fun v2 s1 zv2 h => ?_)
  refine r_if_eq X 15 (x_dr DX7_stone 2 rfl) (by decide) (fun c3 => ?_) (fun c3 => ?_)
  · replace h := h.1 c3
    refine r_bipush (v := (-2)) X (x_dr DX7_stone 7 rfl) (by decide) ?_
    exact r_iret X rfl (x_dr DX7_stone 8 rfl) ⟨_, rfl, h⟩
  · replace h := h.2 c3
    refine r_aload_n X (x_dr DX7_stone 3 rfl) 0 rfl rfl ?_
    refine r_iload_n X (x_dr DX7_stone 4 rfl) 1 rfl rfl ?_
    refine cl7_stoneOf X (k7_stoneOf h) rfl ml_7_157 ⟨Nat.le_of_ble_eq_true rfl, Nat.le_of_ble_eq_true rfl⟩ (Nat.le_of_ble_eq_true rfl) (x_dr DX7_stone 5 rfl) (fun v5 s4 h => ?_)
    refine r_goto X 17 (x_dr DX7_stone 6 rfl) (by decide) ?_
    exact r_iret X rfl (x_dr DX7_stone 8 rfl) ⟨_, rfl, h⟩
set_option maxRecDepth 10000 in
theorem k7_memberOf {ad : xAd} {G : xG} {l : Launch} {a1 : Int32} {a2 : Int32} {σ : xSt} {Q : Int32 → xSt → Prop}  (h : d7_memberOf a1 a2 σ Q) : MC ad G l yX7_memberOf cX7_memberOf 3 (some .int) 0 0 [.ref (ad 13 0 0), .int a1, .int a2] σ (qI Q) := by
  unfold d7_memberOf at h
  refine x_MC [(0, .ref (ad 13 0 0)), (1, .int a1), (2, .int a2)] (by decide +kernel) rfl (Nat.le_of_ble_eq_true rfl) ?_
  intro E hG hl X
  replace X : FX ad E cX7_memberOf 3 RX7 (some .int) 0 0 := X
  refine r_iload_n X (x_dr DX7_memberOf 0 rfl) 2 rfl rfl ?_
  refine r_if_ne X 13 (x_dr DX7_memberOf 1 rfl) (by decide) (fun c1 => ?_) (fun c1 => ?_)
  · replace h := h.1 c1
    refine r_iload_n X (x_dr DX7_memberOf 7 rfl) 2 rfl rfl ?_
    refine r_iconst (v := 1) X (x_dr DX7_memberOf 8 rfl) (by decide) ?_
    refine r_icmp_ne X 27 (x_dr DX7_memberOf 9 rfl) (by decide) (fun c2 => ?_) (fun c2 => ?_)
    · replace h := h.1 c2
      refine r_aload_n X (x_dr DX7_memberOf 15 rfl) 0 rfl rfl ?_
      refine gf_7_25 X rfl (x_dr DX7_memberOf 16 rfl) ?_
      refine r_iload_n X (x_dr DX7_memberOf 17 rfl) 1 rfl rfl ?_
      obtain ⟨b3, h⟩ := h
      refine r_iald X rfl rfl b3 (x_dr DX7_memberOf 18 rfl) ?_
      exact r_iret X rfl (x_dr DX7_memberOf 19 rfl) ⟨_, rfl, h⟩
    · replace h := h.2 c2
      refine r_aload_n X (x_dr DX7_memberOf 10 rfl) 0 rfl rfl ?_
      refine gf_7_22 X rfl (x_dr DX7_memberOf 11 rfl) ?_
      refine r_iload_n X (x_dr DX7_memberOf 12 rfl) 1 rfl rfl ?_
      obtain ⟨b4, h⟩ := h
      refine r_iald X rfl rfl b4 (x_dr DX7_memberOf 13 rfl) ?_
      refine r_goto X 33 (x_dr DX7_memberOf 14 rfl) (by decide) ?_
      exact r_iret X rfl (x_dr DX7_memberOf 19 rfl) ⟨_, rfl, h⟩
  · replace h := h.2 c1
    refine r_aload_n X (x_dr DX7_memberOf 2 rfl) 0 rfl rfl ?_
    refine gf_7_19 X rfl (x_dr DX7_memberOf 3 rfl) ?_
    refine r_iload_n X (x_dr DX7_memberOf 4 rfl) 1 rfl rfl ?_
    obtain ⟨b5, h⟩ := h
    refine r_iald X rfl rfl b5 (x_dr DX7_memberOf 5 rfl) ?_
    refine r_goto X 33 (x_dr DX7_memberOf 6 rfl) (by decide) ?_
    exact r_iret X rfl (x_dr DX7_memberOf 19 rfl) ⟨_, rfl, h⟩
set_option maxRecDepth 10000 in
theorem k7_member {ad : xAd} {G : xG} {l : Launch} {a1 : Int32} {a2 : Int32} {σ : xSt} {Q : Int32 → xSt → Prop}  (h : d7_member a1 a2 σ Q) : MC ad G l yX7_member cX7_member 3 (some .int) 7 154 [.ref (ad 13 0 0), .int a1, .int a2] σ (qI Q) := by
  unfold d7_member at h
  refine x_MC [(0, .ref (ad 13 0 0)), (1, .int a1), (2, .int a2)] (by decide +kernel) rfl (Nat.le_of_ble_eq_true rfl) ?_
  intro E hG hl X
  replace X : FX ad E cX7_member 3 RX7 (some .int) 7 154 := X
  refine r_aload_n X (x_dr DX7_member 0 rfl) 0 rfl rfl ?_
  refine r_iload_n X (x_dr DX7_member 1 rfl) 1 rfl rfl ?_
  refine cl7_isMember X (k7_isMember h) rfl ml_7_160 ⟨Nat.le_of_ble_eq_true rfl, Nat.le_of_ble_eq_true rfl⟩ (Nat.le_of_ble_eq_true rfl) (x_dr DX7_member 2 rfl) (fun v2 s1 zv2 h => ?_)
  refine r_if_eq X 26 (x_dr DX7_member 3 rfl) (by decide) (fun c3 => ?_) (fun c3 => ?_)
  · replace h := h.1 c3
    refine r_bipush (v := (-2)) X (x_dr DX7_member 14 rfl) (by decide) ?_
    exact r_iret X rfl (x_dr DX7_member 15 rfl) ⟨_, rfl, h⟩
  · replace h := h.2 c3
    refine r_iload_n X (x_dr DX7_member 4 rfl) 2 rfl rfl ?_
    refine r_iconst (v := 0) X (x_dr DX7_member 5 rfl) (by decide) ?_
    refine r_iconst (v := 2) X (x_dr DX7_member 6 rfl) (by decide) ?_
    refine cl7_in X (k7_in h) ml_7_115 ⟨Nat.le_of_ble_eq_true rfl, Nat.le_of_ble_eq_true rfl⟩ (Nat.le_of_ble_eq_true rfl) (x_dr DX7_member 7 rfl) (fun v5 s4 zv5 h => ?_)
    refine r_if_eq X 26 (x_dr DX7_member 8 rfl) (by decide) (fun c6 => ?_) (fun c6 => ?_)
    · replace h := h.1 c6
      refine r_bipush (v := (-2)) X (x_dr DX7_member 14 rfl) (by decide) ?_
      exact r_iret X rfl (x_dr DX7_member 15 rfl) ⟨_, rfl, h⟩
    · replace h := h.2 c6
      refine r_aload_n X (x_dr DX7_member 9 rfl) 0 rfl rfl ?_
      refine r_iload_n X (x_dr DX7_member 10 rfl) 1 rfl rfl ?_
      refine r_iload_n X (x_dr DX7_member 11 rfl) 2 rfl rfl ?_
      refine cl7_memberOf X (k7_memberOf h) rfl ml_7_163 ⟨Nat.le_of_ble_eq_true rfl, Nat.le_of_ble_eq_true rfl⟩ (Nat.le_of_ble_eq_true rfl) (x_dr DX7_member 12 rfl) (fun v8 s7 h => ?_)
      refine r_goto X 28 (x_dr DX7_member 13 rfl) (by decide) ?_
      exact r_iret X rfl (x_dr DX7_member 15 rfl) ⟨_, rfl, h⟩
set_option maxRecDepth 10000 in
theorem k7_event {ad : xAd} {G : xG} {l : Launch} {a1 : Int32} {a2 : Int32} {a3 : Int32} {σ : xSt} {Q : Int32 → xSt → Prop}  (h : d7_event a1 a2 a3 σ Q) : MC ad G l yX7_event cX7_event 4 (some .int) 2 42 [.ref (ad 13 0 0), .int a1, .int a2, .int a3] σ (qI Q) := by
  unfold d7_event at h
  refine x_MC [(0, .ref (ad 13 0 0)), (1, .int a1), (2, .int a2), (3, .int a3)] (by decide +kernel) rfl (Nat.le_of_ble_eq_true rfl) ?_
  intro E hG hl X
  replace X : FX ad E cX7_event 4 RX7 (some .int) 2 42 := X
  refine r_iload_n X (x_dr DX7_event 0 rfl) 1 rfl rfl ?_
  refine r_iconst (v := 0) X (x_dr DX7_event 1 rfl) (by decide) ?_
  refine r_iconst (v := 3) X (x_dr DX7_event 2 rfl) (by decide) ?_
  refine cl7_in X (k7_in h) ml_7_115 ⟨Nat.le_of_ble_eq_true rfl, Nat.le_of_ble_eq_true rfl⟩ (Nat.le_of_ble_eq_true rfl) (x_dr DX7_event 3 rfl) (fun v2 s1 zv2 h => ?_)
  refine r_if_eq X 23 (x_dr DX7_event 4 rfl) (by decide) (fun c3 => ?_) (fun c3 => ?_)
  · replace h := h.1 c3
    refine r_bipush (v := (-2)) X (x_dr DX7_event 11 rfl) (by decide) ?_
    exact r_iret X rfl (x_dr DX7_event 12 rfl) ⟨_, rfl, h⟩
  · replace h := h.2 c3
    refine r_iload_n X (x_dr DX7_event 5 rfl) 2 rfl rfl ?_
    refine cl7_isHour X (k7_isHour h) ml_7_166 ⟨Nat.le_of_ble_eq_true rfl, Nat.le_of_ble_eq_true rfl⟩ (Nat.le_of_ble_eq_true rfl) (x_dr DX7_event 6 rfl) (fun v5 s4 zv5 h => ?_)
    refine r_if_eq X 23 (x_dr DX7_event 7 rfl) (by decide) (fun c6 => ?_) (fun c6 => ?_)
    · replace h := h.1 c6
      refine r_bipush (v := (-2)) X (x_dr DX7_event 11 rfl) (by decide) ?_
      exact r_iret X rfl (x_dr DX7_event 12 rfl) ⟨_, rfl, h⟩
    · replace h := h.2 c6
      refine r_iload_n X (x_dr DX7_event 8 rfl) 3 rfl rfl ?_
      refine cl7_isPlace X (k7_isPlace h) ml_7_154 ⟨Nat.le_of_ble_eq_true rfl, Nat.le_of_ble_eq_true rfl⟩ (Nat.le_of_ble_eq_true rfl) (x_dr DX7_event 9 rfl) (fun v8 s7 zv8 h => ?_)
      refine r_if_ne X 26 (x_dr DX7_event 10 rfl) (by decide) (fun c9 => ?_) (fun c9 => ?_)
      · replace h := h.1 c9
        refine r_aload_n X (x_dr DX7_event 13 rfl) 0 rfl rfl ?_
        refine gf_7_169 X rfl (x_dr DX7_event 14 rfl) ?_
        refine r_bipush (v := 8) X (x_dr DX7_event 15 rfl) (by decide) ?_
        refine r_icmp_ne X 38 (x_dr DX7_event 16 rfl) (by decide) (fun c10 => ?_) (fun c10 => ?_)
        · replace h := h.1 c10
          refine r_aload_n X (x_dr DX7_event 19 rfl) 0 rfl rfl ?_
          refine gf_7_28 X rfl (x_dr DX7_event 20 rfl) ?_
          refine r_aload_n X (x_dr DX7_event 21 rfl) 0 rfl rfl ?_
          refine gf_7_169 X rfl (x_dr DX7_event 22 rfl) ?_
          refine r_iload_n X (x_dr DX7_event 23 rfl) 1 rfl rfl ?_
          obtain ⟨b11, h⟩ := h
          refine r_iast X rfl rfl b11 (x_dr DX7_event 24 rfl) ?_
          refine r_nmS (fun s12 es12 => ?_)
          replace h := h s12 es12
          refine r_aload_n X (x_dr DX7_event 25 rfl) 0 rfl rfl ?_
          refine gf_7_31 X rfl (x_dr DX7_event 26 rfl) ?_
          refine r_aload_n X (x_dr DX7_event 27 rfl) 0 rfl rfl ?_
          refine gf_7_169 X rfl (x_dr DX7_event 28 rfl) ?_
          refine r_iload_n X (x_dr DX7_event 29 rfl) 2 rfl rfl ?_
          obtain ⟨b13, h⟩ := h
          refine r_iast X rfl rfl b13 (x_dr DX7_event 30 rfl) ?_
          refine r_nmS (fun s14 es14 => ?_)
          replace h := h s14 es14
          refine r_aload_n X (x_dr DX7_event 31 rfl) 0 rfl rfl ?_
          refine gf_7_34 X rfl (x_dr DX7_event 32 rfl) ?_
          refine r_aload_n X (x_dr DX7_event 33 rfl) 0 rfl rfl ?_
          refine gf_7_169 X rfl (x_dr DX7_event 34 rfl) ?_
          refine r_iload_n X (x_dr DX7_event 35 rfl) 3 rfl rfl ?_
          obtain ⟨b15, h⟩ := h
          refine r_iast X rfl rfl b15 (x_dr DX7_event 36 rfl) ?_
          refine r_nmS (fun s16 es16 => ?_)
          replace h := h s16 es16
          refine r_aload_n X (x_dr DX7_event 37 rfl) 0 rfl rfl ?_
          refine r_dup X (x_dr DX7_event 38 rfl) rfl ?_
          refine gf_7_169 X rfl (x_dr DX7_event 39 rfl) ?_
          refine r_iconst (v := 1) X (x_dr DX7_event 40 rfl) (by decide) ?_
          refine r_iadd X (x_dr DX7_event 41 rfl) ?_
          refine pf_7_169 X rfl (x_dr DX7_event 42 rfl) ?_
          refine r_nmS (fun s17 es17 => ?_)
          replace h := h s17 es17
          refine r_aload_n X (x_dr DX7_event 43 rfl) 0 rfl rfl ?_
          refine gf_7_169 X rfl (x_dr DX7_event 44 rfl) ?_
          exact r_iret X rfl (x_dr DX7_event 45 rfl) ⟨_, rfl, h⟩
        · replace h := h.2 c10
          refine r_bipush (v := (-4)) X (x_dr DX7_event 17 rfl) (by decide) ?_
          exact r_iret X rfl (x_dr DX7_event 18 rfl) ⟨_, rfl, h⟩
      · replace h := h.2 c9
        refine r_bipush (v := (-2)) X (x_dr DX7_event 11 rfl) (by decide) ?_
        exact r_iret X rfl (x_dr DX7_event 12 rfl) ⟨_, rfl, h⟩
set_option maxRecDepth 10000 in
theorem k7_back {ad : xAd} {G : xG} {l : Launch} {σ : xSt} {Q : Int32 → xSt → Prop}  (h : d7_back σ Q) : MC ad G l yX7_back cX7_back 1 (some .int) 0 0 [.ref (ad 13 0 0)] σ (qI Q) := by
  unfold d7_back at h
  refine x_MC [(0, .ref (ad 13 0 0))] (by decide +kernel) rfl (Nat.le_of_ble_eq_true rfl) ?_
  intro E hG hl X
  replace X : FX ad E cX7_back 1 RX7 (some .int) 0 0 := X
  refine r_aload_n X (x_dr DX7_back 0 rfl) 0 rfl rfl ?_
  refine gf_7_169 X rfl (x_dr DX7_back 1 rfl) ?_
  refine r_if_ne X 10 (x_dr DX7_back 2 rfl) (by decide) (fun c1 => ?_) (fun c1 => ?_)
  · replace h := h.1 c1
    refine r_aload_n X (x_dr DX7_back 5 rfl) 0 rfl rfl ?_
    refine r_dup X (x_dr DX7_back 6 rfl) rfl ?_
    refine gf_7_169 X rfl (x_dr DX7_back 7 rfl) ?_
    refine r_iconst (v := 1) X (x_dr DX7_back 8 rfl) (by decide) ?_
    refine r_isub X (x_dr DX7_back 9 rfl) ?_
    refine pf_7_169 X rfl (x_dr DX7_back 10 rfl) ?_
    refine r_nmS (fun s2 es2 => ?_)
    replace h := h s2 es2
    refine r_aload_n X (x_dr DX7_back 11 rfl) 0 rfl rfl ?_
    refine gf_7_169 X rfl (x_dr DX7_back 12 rfl) ?_
    exact r_iret X rfl (x_dr DX7_back 13 rfl) ⟨_, rfl, h⟩
  · replace h := h.2 c1
    refine r_bipush (v := (-3)) X (x_dr DX7_back 3 rfl) (by decide) ?_
    exact r_iret X rfl (x_dr DX7_back 4 rfl) ⟨_, rfl, h⟩
set_option maxRecDepth 10000 in
theorem k7_isSheet {ad : xAd} {G : xG} {l : Launch} {a0 : Int32} {σ : xSt} {Q : Int32 → xSt → Prop}  (h : d7_isSheet a0 σ Q) : MC ad G l yX7_isSheet cX7_isSheet 1 (some .boolean) 1 22 [.int a0] σ (qZ Q) := by
  unfold d7_isSheet at h
  refine x_MC [(0, .int a0)] (by decide +kernel) rfl (Nat.le_of_ble_eq_true rfl) ?_
  intro E hG hl X
  replace X : FX ad E cX7_isSheet 1 RX7 (some .boolean) 1 22 := X
  refine r_iload_n X (x_dr DX7_isSheet 0 rfl) 0 rfl rfl ?_
  refine r_iconst (v := 0) X (x_dr DX7_isSheet 1 rfl) (by decide) ?_
  refine r_iconst (v := 3) X (x_dr DX7_isSheet 2 rfl) (by decide) ?_
  refine cl7_in X (k7_in h) ml_7_115 ⟨Nat.le_of_ble_eq_true rfl, Nat.le_of_ble_eq_true rfl⟩ (Nat.le_of_ble_eq_true rfl) (x_dr DX7_isSheet 3 rfl) (fun v2 s1 zv2 h => ?_)
  exact r_zret X rfl (x_dr DX7_isSheet 4 rfl) zv2 ⟨_, rfl, zv2, h⟩
set_option maxRecDepth 10000 in
theorem k7_meets {ad : xAd} {G : xG} {l : Launch} {a1 : Int32} {σ : xSt} {Q : Int32 → xSt → Prop}  (h : d7_meets a1 σ Q) : MC ad G l yX7_meets cX7_meets 2 (some .int) 0 0 [.ref (ad 13 0 0), .int a1] σ (qI Q) := by
  unfold d7_meets at h
  refine x_MC [(0, .ref (ad 13 0 0)), (1, .int a1)] (by decide +kernel) rfl (Nat.le_of_ble_eq_true rfl) ?_
  intro E hG hl X
  replace X : FX ad E cX7_meets 2 RX7 (some .int) 0 0 := X
  refine r_aload_n X (x_dr DX7_meets 0 rfl) 0 rfl rfl ?_
  refine r_iload_n X (x_dr DX7_meets 1 rfl) 1 rfl rfl ?_
  refine pf_7_332 X rfl (x_dr DX7_meets 2 rfl) ?_
  refine r_nmS (fun s1 es1 => ?_)
  replace h := h s1 es1
  refine r_bipush (v := (-10)) X (x_dr DX7_meets 3 rfl) (by decide) ?_
  refine r_iload_n X (x_dr DX7_meets 4 rfl) 1 rfl rfl ?_
  refine r_isub X (x_dr DX7_meets 5 rfl) ?_
  exact r_iret X rfl (x_dr DX7_meets 6 rfl) ⟨_, rfl, h⟩
set_option maxRecDepth 10000 in
theorem w7_read_L32 {ad : xAd} {E : xE} (X : FX ad E cX7_read 4 RX7 (some .int) 3 65)   {a1 : Int32} {a3 : Int32} {K : Int32 → xSt → Prop} {Q : Int32 → xSt → Prop} : ∀ (n : Nat) (a2 : Int32) (σ : xSt), d7_read_L32 a1 a3 K Q n a2 σ → (∀ (a2 : Int32) (s : xSt), K a2 s → KK ad E (qI Q) 93 ([(2, .int a2)]) [] s) → KK ad E (qI Q) 32 ([(0, .ref (ad 13 0 0)), (1, .int a1), (2, .int a2), (3, .int a3)]) [] σ := by
  intro n
  induction n with
  | zero => intro a2 σ h kk; exact h.elim
  | succ n ih =>
    intro a2 σ h kk
    rw [d7_read_L32] at h
    refine r_iconst (v := 3) X (x_dr DX7_read 20 rfl) (by decide) ?_
    refine r_iload_n X (x_dr DX7_read 21 rfl) 2 rfl rfl ?_
    refine r_imul X (x_dr DX7_read 22 rfl) ?_
    refine r_iconst (v := 2) X (x_dr DX7_read 23 rfl) (by decide) ?_
    refine r_iadd X (x_dr DX7_read 24 rfl) ?_
    refine r_aload_n X (x_dr DX7_read 25 rfl) 0 rfl rfl ?_
    refine gf_7_104 X rfl (x_dr DX7_read 26 rfl) ?_
    refine r_iload_n X (x_dr DX7_read 27 rfl) 1 rfl rfl ?_
    obtain ⟨b7, h⟩ := h
    refine r_iald X rfl rfl b7 (x_dr DX7_read 28 rfl) ?_
    refine r_icmp_ge X 93 (x_dr DX7_read 29 rfl) (by decide) (fun c8 => ?_) (fun c8 => ?_)
    · replace h := h.1 c8
      refine r_norm X [2] ([(2, .int a2)]) rfl ?_
      exact kk _ _ h
    · replace h := h.2 c8
      refine r_aload_n X (x_dr DX7_read 30 rfl) 0 rfl rfl ?_
      refine r_aload_n X (x_dr DX7_read 31 rfl) 0 rfl rfl ?_
      refine gf_7_107 X rfl (x_dr DX7_read 32 rfl) ?_
      refine r_iload_n X (x_dr DX7_read 33 rfl) 3 rfl rfl ?_
      refine r_iconst (v := 3) X (x_dr DX7_read 34 rfl) (by decide) ?_
      refine r_iload_n X (x_dr DX7_read 35 rfl) 2 rfl rfl ?_
      refine r_imul X (x_dr DX7_read 36 rfl) ?_
      refine r_iadd X (x_dr DX7_read 37 rfl) ?_
      obtain ⟨b9, h⟩ := h
      refine r_iald X rfl rfl b9 (x_dr DX7_read 38 rfl) ?_
      refine r_aload_n X (x_dr DX7_read 39 rfl) 0 rfl rfl ?_
      refine gf_7_107 X rfl (x_dr DX7_read 40 rfl) ?_
      refine r_iload_n X (x_dr DX7_read 41 rfl) 3 rfl rfl ?_
      refine r_iconst (v := 3) X (x_dr DX7_read 42 rfl) (by decide) ?_
      refine r_iload_n X (x_dr DX7_read 43 rfl) 2 rfl rfl ?_
      refine r_imul X (x_dr DX7_read 44 rfl) ?_
      refine r_iadd X (x_dr DX7_read 45 rfl) ?_
      refine r_iconst (v := 1) X (x_dr DX7_read 46 rfl) (by decide) ?_
      refine r_iadd X (x_dr DX7_read 47 rfl) ?_
      obtain ⟨b10, h⟩ := h
      refine r_iald X rfl rfl b10 (x_dr DX7_read 48 rfl) ?_
      refine r_aload_n X (x_dr DX7_read 49 rfl) 0 rfl rfl ?_
      refine gf_7_107 X rfl (x_dr DX7_read 50 rfl) ?_
      refine r_iload_n X (x_dr DX7_read 51 rfl) 3 rfl rfl ?_
      refine r_iconst (v := 3) X (x_dr DX7_read 52 rfl) (by decide) ?_
      refine r_iload_n X (x_dr DX7_read 53 rfl) 2 rfl rfl ?_
      refine r_imul X (x_dr DX7_read 54 rfl) ?_
      refine r_iadd X (x_dr DX7_read 55 rfl) ?_
      refine r_iconst (v := 2) X (x_dr DX7_read 56 rfl) (by decide) ?_
      refine r_iadd X (x_dr DX7_read 57 rfl) ?_
      obtain ⟨b11, h⟩ := h
      refine r_iald X rfl rfl b11 (x_dr DX7_read 58 rfl) ?_
      refine cl7_event X (k7_event h) rfl ml_7_178 ⟨Nat.le_of_ble_eq_true rfl, Nat.le_of_ble_eq_true rfl⟩ (Nat.le_of_ble_eq_true rfl) (x_dr DX7_read 59 rfl) (fun v13 s12 h => ?_)
      refine r_if_le X 93 (x_dr DX7_read 60 rfl) (by decide) (fun c14 => ?_) (fun c14 => ?_)
      · replace h := h.1 c14
        refine r_norm X [2] ([(2, .int a2)]) rfl ?_
        exact kk _ _ h
      · replace h := h.2 c14
        obtain ⟨v15, ev15⟩ : ∃ z : Int32, z = a2 + 1 := ⟨_, rfl⟩
        replace h := h v15 ev15
        refine r_iinc (v := v15) X ([(2, .int v15), (0, .ref (ad 13 0 0)), (1, .int a1), (3, .int a3)]) 2 (x_dr DX7_read 61 rfl) rfl (by rw [ev15]; rfl) (by decide) rfl ?_
        refine r_goto X 32 (x_dr DX7_read 62 rfl) (by decide) ?_
        refine r_norm X [1, 2, 0, 3] ([(0, .ref (ad 13 0 0)), (1, .int a1), (2, .int v15), (3, .int a3)]) rfl ?_
        exact ih _ _ h kk
set_option maxRecDepth 10000 in
theorem k7_read {ad : xAd} {G : xG} {l : Launch} {a1 : Int32} {σ : xSt} {Q : Int32 → xSt → Prop}  (h : d7_read a1 σ Q) : MC ad G l yX7_read cX7_read 4 (some .int) 3 65 [.ref (ad 13 0 0), .int a1] σ (qI Q) := by
  unfold d7_read at h
  refine x_MC [(0, .ref (ad 13 0 0)), (1, .int a1)] (by decide +kernel) rfl (Nat.le_of_ble_eq_true rfl) ?_
  intro E hG hl X
  replace X : FX ad E cX7_read 4 RX7 (some .int) 3 65 := X
  refine r_iload_n X (x_dr DX7_read 0 rfl) 1 rfl rfl ?_
  refine cl7_isSheet X (k7_isSheet h) ml_7_172 ⟨Nat.le_of_ble_eq_true rfl, Nat.le_of_ble_eq_true rfl⟩ (Nat.le_of_ble_eq_true rfl) (x_dr DX7_read 1 rfl) (fun v2 s1 zv2 h => ?_)
  refine r_if_ne X 10 (x_dr DX7_read 2 rfl) (by decide) (fun c3 => ?_) (fun c3 => ?_)
  · replace h := h.1 c3
    refine r_aload_n X (x_dr DX7_read 5 rfl) 0 rfl rfl ?_
    refine gf_7_97 X rfl (x_dr DX7_read 6 rfl) ?_
    refine r_iload_n X (x_dr DX7_read 7 rfl) 1 rfl rfl ?_
    obtain ⟨b4, h⟩ := h
    refine r_zald X rfl rfl b4 (x_dr DX7_read 8 rfl) ?_
    refine r_if_ne X 25 (x_dr DX7_read 9 rfl) (by decide) (fun c5 => ?_) (fun c5 => ?_)
    · replace h := h.1 c5
      refine r_iconst (v := 0) X (x_dr DX7_read 14 rfl) (by decide) ?_
      refine r_istore_n X ([(2, .int 0), (0, .ref (ad 13 0 0)), (1, .int a1)]) (x_dr DX7_read 15 rfl) rfl (by decide) rfl ?_
      refine r_bipush (v := 60) X (x_dr DX7_read 16 rfl) (by decide) ?_
      refine r_iload_n X (x_dr DX7_read 17 rfl) 2 rfl rfl ?_
      refine r_imul X (x_dr DX7_read 18 rfl) ?_
      refine r_nmI (fun v6 ev6 => ?_)
      replace h := h v6 ev6
      refine r_istore_n X ([(3, .int v6), (2, .int 0), (0, .ref (ad 13 0 0)), (1, .int a1)]) (x_dr DX7_read 19 rfl) rfl (by decide) rfl ?_
      refine r_norm X [2, 3, 1, 0] ([(0, .ref (ad 13 0 0)), (1, .int a1), (2, .int 0), (3, .int v6)]) rfl ?_
      refine w7_read_L32 X  _ _ _ h (fun v17 s16 h => ?_)
      refine r_iload_n X (x_dr DX7_read 63 rfl) 0 rfl rfl ?_
      exact r_iret X rfl (x_dr DX7_read 64 rfl) ⟨_, rfl, h⟩
    · replace h := h.2 c5
      refine r_aload_n X (x_dr DX7_read 10 rfl) 0 rfl rfl ?_
      refine r_iconst (v := 1) X (x_dr DX7_read 11 rfl) (by decide) ?_
      refine cl7_meets X (k7_meets h) rfl ml_7_175 ⟨Nat.le_of_ble_eq_true rfl, Nat.le_of_ble_eq_true rfl⟩ (Nat.le_of_ble_eq_true rfl) (x_dr DX7_read 12 rfl) (fun v19 s18 h => ?_)
      exact r_iret X rfl (x_dr DX7_read 13 rfl) ⟨_, rfl, h⟩
  · replace h := h.2 c3
    refine r_bipush (v := (-2)) X (x_dr DX7_read 3 rfl) (by decide) ?_
    exact r_iret X rfl (x_dr DX7_read 4 rfl) ⟨_, rfl, h⟩
set_option maxRecDepth 10000 in
theorem w7_asTold_L14 {ad : xAd} {E : xE} (X : FX ad E cX7_asTold 2 RX7 none 6 133)   {K : xSt → Prop} {Q : xSt → Prop} : ∀ (n : Nat) (a1 : Int32) (σ : xSt), d7_asTold_L14 K Q n a1 σ → (∀ (s : xSt), K  s → KK ad E (qV Q) 64 ([(0, .ref (ad 13 0 0))]) [] s) → KK ad E (qV Q) 14 ([(0, .ref (ad 13 0 0)), (1, .int a1)]) [] σ := by
  intro n
  induction n with
  | zero => intro a1 σ h kk; exact h.elim
  | succ n ih =>
    intro a1 σ h kk
    rw [d7_asTold_L14] at h
    refine r_iload_n X (x_dr DX7_asTold 8 rfl) 1 rfl rfl ?_
    refine r_aload_n X (x_dr DX7_asTold 9 rfl) 0 rfl rfl ?_
    refine gf_7_169 X rfl (x_dr DX7_asTold 10 rfl) ?_
    refine r_icmp_ge X 64 (x_dr DX7_asTold 11 rfl) (by decide) (fun c3 => ?_) (fun c3 => ?_)
    · replace h := h.1 c3
      refine r_norm X [0] ([(0, .ref (ad 13 0 0))]) rfl ?_
      exact kk  _ h
    · replace h := h.2 c3
      refine r_aload_n X (x_dr DX7_asTold 12 rfl) 0 rfl rfl ?_
      refine gf_7_37 X rfl (x_dr DX7_asTold 13 rfl) ?_
      refine r_iload_n X (x_dr DX7_asTold 14 rfl) 1 rfl rfl ?_
      refine r_aload_n X (x_dr DX7_asTold 15 rfl) 0 rfl rfl ?_
      refine gf_7_28 X rfl (x_dr DX7_asTold 16 rfl) ?_
      refine r_iload_n X (x_dr DX7_asTold 17 rfl) 1 rfl rfl ?_
      obtain ⟨b4, h⟩ := h
      refine r_iald X rfl rfl b4 (x_dr DX7_asTold 18 rfl) ?_
      obtain ⟨b5, h⟩ := h
      refine r_iast X rfl rfl b5 (x_dr DX7_asTold 19 rfl) ?_
      refine r_nmS (fun s6 es6 => ?_)
      replace h := h s6 es6
      refine r_aload_n X (x_dr DX7_asTold 20 rfl) 0 rfl rfl ?_
      refine gf_7_40 X rfl (x_dr DX7_asTold 21 rfl) ?_
      refine r_iload_n X (x_dr DX7_asTold 22 rfl) 1 rfl rfl ?_
      refine r_aload_n X (x_dr DX7_asTold 23 rfl) 0 rfl rfl ?_
      refine gf_7_31 X rfl (x_dr DX7_asTold 24 rfl) ?_
      refine r_iload_n X (x_dr DX7_asTold 25 rfl) 1 rfl rfl ?_
      obtain ⟨b7, h⟩ := h
      refine r_iald X rfl rfl b7 (x_dr DX7_asTold 26 rfl) ?_
      obtain ⟨b8, h⟩ := h
      refine r_iast X rfl rfl b8 (x_dr DX7_asTold 27 rfl) ?_
      refine r_nmS (fun s9 es9 => ?_)
      replace h := h s9 es9
      refine r_aload_n X (x_dr DX7_asTold 28 rfl) 0 rfl rfl ?_
      refine gf_7_43 X rfl (x_dr DX7_asTold 29 rfl) ?_
      refine r_iload_n X (x_dr DX7_asTold 30 rfl) 1 rfl rfl ?_
      refine r_aload_n X (x_dr DX7_asTold 31 rfl) 0 rfl rfl ?_
      refine gf_7_34 X rfl (x_dr DX7_asTold 32 rfl) ?_
      refine r_iload_n X (x_dr DX7_asTold 33 rfl) 1 rfl rfl ?_
      obtain ⟨b10, h⟩ := h
      refine r_iald X rfl rfl b10 (x_dr DX7_asTold 34 rfl) ?_
      obtain ⟨b11, h⟩ := h
      refine r_iast X rfl rfl b11 (x_dr DX7_asTold 35 rfl) ?_
      refine r_nmS (fun s12 es12 => ?_)
      replace h := h s12 es12
      obtain ⟨v13, ev13⟩ : ∃ z : Int32, z = a1 + 1 := ⟨_, rfl⟩
      replace h := h v13 ev13
      refine r_iinc (v := v13) X ([(1, .int v13), (0, .ref (ad 13 0 0))]) 1 (x_dr DX7_asTold 36 rfl) rfl (by rw [ev13]; rfl) (by decide) rfl ?_
      refine r_goto X 14 (x_dr DX7_asTold 37 rfl) (by decide) ?_
      refine r_norm X [1, 0] ([(0, .ref (ad 13 0 0)), (1, .int v13)]) rfl ?_
      exact ih _ _ h kk
set_option maxRecDepth 10000 in
theorem k7_asTold {ad : xAd} {G : xG} {l : Launch} {σ : xSt} {Q : xSt → Prop}  (h : d7_asTold σ Q) : MC ad G l yX7_asTold cX7_asTold 2 none 6 133 [.ref (ad 13 0 0)] σ (qV Q) := by
  unfold d7_asTold at h
  refine x_MC [(0, .ref (ad 13 0 0))] (by decide +kernel) rfl (Nat.le_of_ble_eq_true rfl) ?_
  intro E hG hl X
  replace X : FX ad E cX7_asTold 2 RX7 none 6 133 := X
  refine r_aload_n X (x_dr DX7_asTold 0 rfl) 0 rfl rfl ?_
  refine cl7_reads X (k7_reads h) rfl ml_7_151 ⟨Nat.le_of_ble_eq_true rfl, Nat.le_of_ble_eq_true rfl⟩ (Nat.le_of_ble_eq_true rfl) (x_dr DX7_asTold 1 rfl) (fun s1 h => ?_)
  refine r_aload_n X (x_dr DX7_asTold 2 rfl) 0 rfl rfl ?_
  refine r_aload_n X (x_dr DX7_asTold 3 rfl) 0 rfl rfl ?_
  refine gf_7_169 X rfl (x_dr DX7_asTold 4 rfl) ?_
  refine pf_7_182 X rfl (x_dr DX7_asTold 5 rfl) ?_
  refine r_nmS (fun s2 es2 => ?_)
  replace h := h s2 es2
  refine r_iconst (v := 0) X (x_dr DX7_asTold 6 rfl) (by decide) ?_
  refine r_istore_n X ([(1, .int 0), (0, .ref (ad 13 0 0))]) (x_dr DX7_asTold 7 rfl) rfl (by decide) rfl ?_
  refine r_norm X [1, 0] ([(0, .ref (ad 13 0 0)), (1, .int 0)]) rfl ?_
  refine w7_asTold_L14 X  _ _ _ h (fun s14 h => ?_)
  refine r_aload_n X (x_dr DX7_asTold 38 rfl) 0 rfl rfl ?_
  refine r_iconst (v := 0) X (x_dr DX7_asTold 39 rfl) (by decide) ?_
  refine pf_7_185 X rfl (x_dr DX7_asTold 40 rfl) ?_
  refine r_nmS (fun s15 es15 => ?_)
  replace h := h s15 es15
  exact r_vret X rfl (x_dr DX7_asTold 41 rfl) ⟨rfl, h⟩
set_option maxRecDepth 10000 in
theorem w7_lifts_L2 {ad : xAd} {E : xE} (X : FX ad E cX7_lifts 3 RX7 none 0 0)   {a1 : Int32} {K : xSt → Prop} {Q : xSt → Prop} : ∀ (n : Nat) (a2 : Int32) (σ : xSt), d7_lifts_L2 a1 K Q n a2 σ → (∀ (s : xSt), K  s → KK ad E (qV Q) 32 ([]) [] s) → KK ad E (qV Q) 2 ([(0, .ref (ad 13 0 0)), (1, .int a1), (2, .int a2)]) [] σ := by
  intro n
  induction n with
  | zero => intro a2 σ h kk; exact h.elim
  | succ n ih =>
    intro a2 σ h kk
    rw [d7_lifts_L2] at h
    refine r_iload_n X (x_dr DX7_lifts 2 rfl) 2 rfl rfl ?_
    refine r_aload_n X (x_dr DX7_lifts 3 rfl) 0 rfl rfl ?_
    refine gf_7_134 X rfl (x_dr DX7_lifts 4 rfl) ?_
    refine r_icmp_ge X 32 (x_dr DX7_lifts 5 rfl) (by decide) (fun c1 => ?_) (fun c1 => ?_)
    · replace h := h.1 c1
      refine r_norm X [] ([]) rfl ?_
      exact kk  _ h
    · replace h := h.2 c1
      refine r_aload_n X (x_dr DX7_lifts 6 rfl) 0 rfl rfl ?_
      refine gf_7_55 X rfl (x_dr DX7_lifts 7 rfl) ?_
      refine r_iload_n X (x_dr DX7_lifts 8 rfl) 2 rfl rfl ?_
      refine r_iload_n X (x_dr DX7_lifts 9 rfl) 1 rfl rfl ?_
      refine r_aload_n X (x_dr DX7_lifts 10 rfl) 0 rfl rfl ?_
      refine gf_7_19 X rfl (x_dr DX7_lifts 11 rfl) ?_
      refine r_iload_n X (x_dr DX7_lifts 12 rfl) 2 rfl rfl ?_
      obtain ⟨b2, h⟩ := h
      refine r_iald X rfl rfl b2 (x_dr DX7_lifts 13 rfl) ?_
      refine r_iadd X (x_dr DX7_lifts 14 rfl) ?_
      refine r_iconst (v := 1) X (x_dr DX7_lifts 15 rfl) (by decide) ?_
      refine r_iadd X (x_dr DX7_lifts 16 rfl) ?_
      obtain ⟨b3, h⟩ := h
      refine r_iast X rfl rfl b3 (x_dr DX7_lifts 17 rfl) ?_
      refine r_nmS (fun s4 es4 => ?_)
      replace h := h s4 es4
      obtain ⟨v5, ev5⟩ : ∃ z : Int32, z = a2 + 1 := ⟨_, rfl⟩
      replace h := h v5 ev5
      refine r_iinc (v := v5) X ([(2, .int v5), (0, .ref (ad 13 0 0)), (1, .int a1)]) 2 (x_dr DX7_lifts 18 rfl) rfl (by rw [ev5]; rfl) (by decide) rfl ?_
      refine r_goto X 2 (x_dr DX7_lifts 19 rfl) (by decide) ?_
      refine r_norm X [1, 2, 0] ([(0, .ref (ad 13 0 0)), (1, .int a1), (2, .int v5)]) rfl ?_
      exact ih _ _ h kk
set_option maxRecDepth 10000 in
theorem k7_lifts {ad : xAd} {G : xG} {l : Launch} {a1 : Int32} {σ : xSt} {Q : xSt → Prop}  (h : d7_lifts a1 σ Q) : MC ad G l yX7_lifts cX7_lifts 3 none 0 0 [.ref (ad 13 0 0), .int a1] σ (qV Q) := by
  unfold d7_lifts at h
  refine x_MC [(0, .ref (ad 13 0 0)), (1, .int a1)] (by decide +kernel) rfl (Nat.le_of_ble_eq_true rfl) ?_
  intro E hG hl X
  replace X : FX ad E cX7_lifts 3 RX7 none 0 0 := X
  refine r_iconst (v := 0) X (x_dr DX7_lifts 0 rfl) (by decide) ?_
  refine r_istore_n X ([(2, .int 0), (0, .ref (ad 13 0 0)), (1, .int a1)]) (x_dr DX7_lifts 1 rfl) rfl (by decide) rfl ?_
  refine r_norm X [1, 2, 0] ([(0, .ref (ad 13 0 0)), (1, .int a1), (2, .int 0)]) rfl ?_
  refine w7_lifts_L2 X  _ _ _ h (fun s6 h => ?_)
  exact r_vret X rfl (x_dr DX7_lifts 20 rfl) ⟨rfl, h⟩
set_option maxRecDepth 10000 in
theorem w7_peppers_L2 {ad : xAd} {E : xE} (X : FX ad E cX7_peppers 3 RX7 none 0 0)   {a1 : Int32} {K : xSt → Prop} {Q : xSt → Prop} : ∀ (n : Nat) (a2 : Int32) (σ : xSt), d7_peppers_L2 a1 K Q n a2 σ → (∀ (s : xSt), K  s → KK ad E (qV Q) 49 ([]) [] s) → KK ad E (qV Q) 2 ([(0, .ref (ad 13 0 0)), (1, .int a1), (2, .int a2)]) [] σ := by
  intro n
  induction n with
  | zero => intro a2 σ h kk; exact h.elim
  | succ n ih =>
    intro a2 σ h kk
    rw [d7_peppers_L2] at h
    refine r_iload_n X (x_dr DX7_peppers 2 rfl) 2 rfl rfl ?_
    refine r_aload_n X (x_dr DX7_peppers 3 rfl) 0 rfl rfl ?_
    refine gf_7_134 X rfl (x_dr DX7_peppers 4 rfl) ?_
    refine r_icmp_ge X 49 (x_dr DX7_peppers 5 rfl) (by decide) (fun c1 => ?_) (fun c1 => ?_)
    · replace h := h.1 c1
      refine r_norm X [] ([]) rfl ?_
      exact kk  _ h
    · replace h := h.2 c1
      refine r_aload_n X (x_dr DX7_peppers 6 rfl) 0 rfl rfl ?_
      refine gf_7_52 X rfl (x_dr DX7_peppers 7 rfl) ?_
      refine r_iload_n X (x_dr DX7_peppers 8 rfl) 2 rfl rfl ?_
      refine r_aload_n X (x_dr DX7_peppers 9 rfl) 0 rfl rfl ?_
      refine gf_7_49 X rfl (x_dr DX7_peppers 10 rfl) ?_
      refine r_iload_n X (x_dr DX7_peppers 11 rfl) 2 rfl rfl ?_
      obtain ⟨b2, h⟩ := h
      refine r_iald X rfl rfl b2 (x_dr DX7_peppers 12 rfl) ?_
      refine r_iload_n X (x_dr DX7_peppers 13 rfl) 1 rfl rfl ?_
      refine r_icmp_ne X 36 (x_dr DX7_peppers 14 rfl) (by decide) (fun c3 => ?_) (fun c3 => ?_)
      · replace h := h.1 c3
        refine r_aload_n X (x_dr DX7_peppers 22 rfl) 0 rfl rfl ?_
        refine gf_7_52 X rfl (x_dr DX7_peppers 23 rfl) ?_
        refine r_iload_n X (x_dr DX7_peppers 24 rfl) 2 rfl rfl ?_
        obtain ⟨b4, h⟩ := h
        refine r_iald X rfl rfl b4 (x_dr DX7_peppers 25 rfl) ?_
        obtain ⟨b5, h⟩ := h
        refine r_iast X rfl rfl b5 (x_dr DX7_peppers 26 rfl) ?_
        refine r_nmS (fun s6 es6 => ?_)
        replace h := h s6 es6
        obtain ⟨v7, ev7⟩ : ∃ z : Int32, z = a2 + 1 := ⟨_, rfl⟩
        replace h := h v7 ev7
        refine r_iinc (v := v7) X ([(2, .int v7), (0, .ref (ad 13 0 0)), (1, .int a1)]) 2 (x_dr DX7_peppers 27 rfl) rfl (by rw [ev7]; rfl) (by decide) rfl ?_
        refine r_goto X 2 (x_dr DX7_peppers 28 rfl) (by decide) ?_
        refine r_norm X [1, 2, 0] ([(0, .ref (ad 13 0 0)), (1, .int a1), (2, .int v7)]) rfl ?_
        exact ih _ _ h kk
      · replace h := h.2 c3
        refine r_iconst (v := 1) X (x_dr DX7_peppers 15 rfl) (by decide) ?_
        refine r_aload_n X (x_dr DX7_peppers 16 rfl) 0 rfl rfl ?_
        refine gf_7_52 X rfl (x_dr DX7_peppers 17 rfl) ?_
        refine r_iload_n X (x_dr DX7_peppers 18 rfl) 2 rfl rfl ?_
        obtain ⟨b8, h⟩ := h
        refine r_iald X rfl rfl b8 (x_dr DX7_peppers 19 rfl) ?_
        refine r_isub X (x_dr DX7_peppers 20 rfl) ?_
        refine r_goto X 42 (x_dr DX7_peppers 21 rfl) (by decide) ?_
        obtain ⟨b9, h⟩ := h
        refine r_iast X rfl rfl b9 (x_dr DX7_peppers 26 rfl) ?_
        refine r_nmS (fun s10 es10 => ?_)
        replace h := h s10 es10
        obtain ⟨v11, ev11⟩ : ∃ z : Int32, z = a2 + 1 := ⟨_, rfl⟩
        replace h := h v11 ev11
        refine r_iinc (v := v11) X ([(2, .int v11), (0, .ref (ad 13 0 0)), (1, .int a1)]) 2 (x_dr DX7_peppers 27 rfl) rfl (by rw [ev11]; rfl) (by decide) rfl ?_
        refine r_goto X 2 (x_dr DX7_peppers 28 rfl) (by decide) ?_
        refine r_norm X [1, 2, 0] ([(0, .ref (ad 13 0 0)), (1, .int a1), (2, .int v11)]) rfl ?_
        exact ih _ _ h kk
set_option maxRecDepth 10000 in
theorem k7_peppers {ad : xAd} {G : xG} {l : Launch} {a1 : Int32} {σ : xSt} {Q : xSt → Prop}  (h : d7_peppers a1 σ Q) : MC ad G l yX7_peppers cX7_peppers 3 none 0 0 [.ref (ad 13 0 0), .int a1] σ (qV Q) := by
  unfold d7_peppers at h
  refine x_MC [(0, .ref (ad 13 0 0)), (1, .int a1)] (by decide +kernel) rfl (Nat.le_of_ble_eq_true rfl) ?_
  intro E hG hl X
  replace X : FX ad E cX7_peppers 3 RX7 none 0 0 := X
  refine r_iconst (v := 0) X (x_dr DX7_peppers 0 rfl) (by decide) ?_
  refine r_istore_n X ([(2, .int 0), (0, .ref (ad 13 0 0)), (1, .int a1)]) (x_dr DX7_peppers 1 rfl) rfl (by decide) rfl ?_
  refine r_norm X [1, 2, 0] ([(0, .ref (ad 13 0 0)), (1, .int a1), (2, .int 0)]) rfl ?_
  refine w7_peppers_L2 X  _ _ _ h (fun s12 h => ?_)
  exact r_vret X rfl (x_dr DX7_peppers 29 rfl) ⟨rfl, h⟩
set_option maxRecDepth 10000 in
theorem w7_wets_L2 {ad : xAd} {E : xE} (X : FX ad E cX7_wets 4 RX7 none 0 0)   {a1 : Int32} {K : xSt → Prop} {Q : xSt → Prop} : ∀ (n : Nat) (a2 : Int32) (σ : xSt), d7_wets_L2 a1 K Q n a2 σ → (∀ (s : xSt), K  s → KK ad E (qV Q) 49 ([]) [] s) → KK ad E (qV Q) 2 ([(0, .ref (ad 13 0 0)), (1, .int a1), (2, .int a2)]) [] σ := by
  intro n
  induction n with
  | zero => intro a2 σ h kk; exact h.elim
  | succ n ih =>
    intro a2 σ h kk
    rw [d7_wets_L2] at h
    refine r_iload_n X (x_dr DX7_wets 2 rfl) 2 rfl rfl ?_
    refine r_bipush (v := 12) X (x_dr DX7_wets 3 rfl) (by decide) ?_
    refine r_icmp_ge X 49 (x_dr DX7_wets 4 rfl) (by decide) (fun c1 => ?_) (fun c1 => ?_)
    · replace h := h.1 c1
      refine r_norm X [] ([]) rfl ?_
      exact kk  _ h
    · replace h := h.2 c1
      refine r_aload_n X (x_dr DX7_wets 5 rfl) 0 rfl rfl ?_
      refine gf_7_46 X rfl (x_dr DX7_wets 6 rfl) ?_
      refine r_iload_n X (x_dr DX7_wets 7 rfl) 2 rfl rfl ?_
      obtain ⟨b2, h⟩ := h
      refine r_iald X rfl rfl b2 (x_dr DX7_wets 8 rfl) ?_
      refine r_iload_n X (x_dr DX7_wets 9 rfl) 1 rfl rfl ?_
      refine r_iadd X (x_dr DX7_wets 10 rfl) ?_
      refine r_nmI (fun v3 ev3 => ?_)
      replace h := h v3 ev3
      refine r_istore_n X ([(3, .int v3), (0, .ref (ad 13 0 0)), (1, .int a1), (2, .int a2)]) (x_dr DX7_wets 11 rfl) rfl (by decide) rfl ?_
      refine r_aload_n X (x_dr DX7_wets 12 rfl) 1 rfl rfl ?_
      refine gf_7_46 X rfl (x_dr DX7_wets 13 rfl) ?_
      refine r_iload_n X (x_dr DX7_wets 14 rfl) 3 rfl rfl ?_
      refine r_iload_n X (x_dr DX7_wets 15 rfl) 0 rfl rfl ?_
      refine r_if_ge X 30 (x_dr DX7_wets 16 rfl) (by decide) (fun c4 => ?_) (fun c4 => ?_)
      · replace h := h.1 c4
        refine r_iload_n X (x_dr DX7_wets 19 rfl) 0 rfl rfl ?_
        refine r_bipush (v := 9) X (x_dr DX7_wets 20 rfl) (by decide) ?_
        refine r_icmp_le X 41 (x_dr DX7_wets 21 rfl) (by decide) (fun c5 => ?_) (fun c5 => ?_)
        · replace h := h.1 c5
          refine r_iload_n X (x_dr DX7_wets 24 rfl) 0 rfl rfl ?_
          obtain ⟨b6, h⟩ := h
          refine r_iast X rfl rfl b6 (x_dr DX7_wets 25 rfl) ?_
          refine r_nmS (fun s7 es7 => ?_)
          replace h := h s7 es7
          obtain ⟨v8, ev8⟩ : ∃ z : Int32, z = a2 + 1 := ⟨_, rfl⟩
          replace h := h v8 ev8
          refine r_iinc (v := v8) X ([(2, .int v8), (3, .int v3), (0, .ref (ad 13 0 0)), (1, .int a1)]) 3 (x_dr DX7_wets 26 rfl) rfl (by rw [ev8]; rfl) (by decide) rfl ?_
          refine r_goto X 2 (x_dr DX7_wets 27 rfl) (by decide) ?_
          refine r_norm X [2, 3, 0] ([(0, .ref (ad 13 0 0)), (1, .int a1), (2, .int v8)]) rfl ?_
          exact ih _ _ h kk
        · replace h := h.2 c5
          refine r_bipush (v := 9) X (x_dr DX7_wets 22 rfl) (by decide) ?_
          refine r_goto X 42 (x_dr DX7_wets 23 rfl) (by decide) ?_
          obtain ⟨b9, h⟩ := h
          refine r_iast X rfl rfl b9 (x_dr DX7_wets 25 rfl) ?_
          refine r_nmS (fun s10 es10 => ?_)
          replace h := h s10 es10
          obtain ⟨v11, ev11⟩ : ∃ z : Int32, z = a2 + 1 := ⟨_, rfl⟩
          replace h := h v11 ev11
          refine r_iinc (v := v11) X ([(2, .int v11), (3, .int v3), (0, .ref (ad 13 0 0)), (1, .int a1)]) 3 (x_dr DX7_wets 26 rfl) rfl (by rw [ev11]; rfl) (by decide) rfl ?_
          refine r_goto X 2 (x_dr DX7_wets 27 rfl) (by decide) ?_
          refine r_norm X [2, 3, 0] ([(0, .ref (ad 13 0 0)), (1, .int a1), (2, .int v11)]) rfl ?_
          exact ih _ _ h kk
      · replace h := h.2 c4
        refine r_iconst (v := 0) X (x_dr DX7_wets 17 rfl) (by decide) ?_
        refine r_goto X 42 (x_dr DX7_wets 18 rfl) (by decide) ?_
        obtain ⟨b12, h⟩ := h
        refine r_iast X rfl rfl b12 (x_dr DX7_wets 25 rfl) ?_
        refine r_nmS (fun s13 es13 => ?_)
        replace h := h s13 es13
        obtain ⟨v14, ev14⟩ : ∃ z : Int32, z = a2 + 1 := ⟨_, rfl⟩
        replace h := h v14 ev14
        refine r_iinc (v := v14) X ([(2, .int v14), (3, .int v3), (0, .ref (ad 13 0 0)), (1, .int a1)]) 3 (x_dr DX7_wets 26 rfl) rfl (by rw [ev14]; rfl) (by decide) rfl ?_
        refine r_goto X 2 (x_dr DX7_wets 27 rfl) (by decide) ?_
        refine r_norm X [2, 3, 0] ([(0, .ref (ad 13 0 0)), (1, .int a1), (2, .int v14)]) rfl ?_
        exact ih _ _ h kk
set_option maxRecDepth 10000 in
theorem k7_wets {ad : xAd} {G : xG} {l : Launch} {a1 : Int32} {σ : xSt} {Q : xSt → Prop}  (h : d7_wets a1 σ Q) : MC ad G l yX7_wets cX7_wets 4 none 0 0 [.ref (ad 13 0 0), .int a1] σ (qV Q) := by
  unfold d7_wets at h
  refine x_MC [(0, .ref (ad 13 0 0)), (1, .int a1)] (by decide +kernel) rfl (Nat.le_of_ble_eq_true rfl) ?_
  intro E hG hl X
  replace X : FX ad E cX7_wets 4 RX7 none 0 0 := X
  refine r_iconst (v := 0) X (x_dr DX7_wets 0 rfl) (by decide) ?_
  refine r_istore_n X ([(2, .int 0), (0, .ref (ad 13 0 0)), (1, .int a1)]) (x_dr DX7_wets 1 rfl) rfl (by decide) rfl ?_
  refine r_norm X [1, 2, 0] ([(0, .ref (ad 13 0 0)), (1, .int a1), (2, .int 0)]) rfl ?_
  refine w7_wets_L2 X  _ _ _ h (fun s15 h => ?_)
  exact r_vret X rfl (x_dr DX7_wets 28 rfl) ⟨rfl, h⟩
set_option maxRecDepth 10000 in
theorem k7_befalls {ad : xAd} {G : xG} {l : Launch} {a1 : Int32} {σ : xSt} {Q : xSt → Prop}  (h : d7_befalls a1 σ Q) : MC ad G l yX7_befalls cX7_befalls 3 none 1 23 [.ref (ad 13 0 0), .int a1] σ (qV Q) := by
  unfold d7_befalls at h
  refine x_MC [(0, .ref (ad 13 0 0)), (1, .int a1)] (by decide +kernel) rfl (Nat.le_of_ble_eq_true rfl) ?_
  intro E hG hl X
  replace X : FX ad E cX7_befalls 3 RX7 none 1 23 := X
  refine r_aload_n X (x_dr DX7_befalls 0 rfl) 0 rfl rfl ?_
  refine gf_7_37 X rfl (x_dr DX7_befalls 1 rfl) ?_
  refine r_iload_n X (x_dr DX7_befalls 2 rfl) 1 rfl rfl ?_
  obtain ⟨b1, h⟩ := h
  refine r_iald X rfl rfl b1 (x_dr DX7_befalls 3 rfl) ?_
  refine r_nmI (fun v2 ev2 => ?_)
  replace h := h v2 ev2
  refine r_istore_n X ([(2, .int v2), (0, .ref (ad 13 0 0)), (1, .int a1)]) (x_dr DX7_befalls 4 rfl) rfl (by decide) rfl ?_
  refine r_iload_n X (x_dr DX7_befalls 5 rfl) 0 rfl rfl ?_
  obtain ⟨j7, ej7, h⟩ := x_jn h
  have Jj7 : ∀ (s6 : xSt), j7 s6 → KK ad E (qV Q) 21 ([(0, .ref (ad 13 0 0)), (1, .int a1), (2, .int v2)]) [] s6 := by
    intro s6 h
    rw [ej7] at h
    refine r_iload_n X (x_dr DX7_befalls 13 rfl) 2 rfl rfl ?_
    refine r_iconst (v := 1) X (x_dr DX7_befalls 14 rfl) (by decide) ?_
    obtain ⟨j12, ej12, h⟩ := x_jn h
    have Jj12 : ∀ (s11 : xSt), j12 s11 → KK ad E (qV Q) 36 ([(0, .ref (ad 13 0 0)), (2, .int v2)]) [] s11 := by
      intro s11 h
      rw [ej12] at h
      refine r_iload_n X (x_dr DX7_befalls 22 rfl) 1 rfl rfl ?_
      refine r_iconst (v := 1) X (x_dr DX7_befalls 23 rfl) (by decide) ?_
      refine r_icmp_le X 56 (x_dr DX7_befalls 24 rfl) (by decide) (fun c13 => ?_) (fun c13 => ?_)
      · replace h := h.1 c13
        exact r_vret X rfl (x_dr DX7_befalls 33 rfl) ⟨rfl, h⟩
      · replace h := h.2 c13
        refine r_aload_n X (x_dr DX7_befalls 25 rfl) 0 rfl rfl ?_
        refine r_iload_n X (x_dr DX7_befalls 26 rfl) 1 rfl rfl ?_
        refine r_iconst (v := 2) X (x_dr DX7_befalls 27 rfl) (by decide) ?_
        obtain ⟨j16, ej16, h⟩ := x_jn h
        have Jj16 : ∀ (v15 : Int32), j16 v15 → KK ad E (qV Q) 53 ([]) [.int v15, .ref (ad 13 0 0)] s11 := by
          intro v15 h
          rw [ej16] at h
          refine cl7_wets X (k7_wets h) rfl ml_7_195 ⟨Nat.le_of_ble_eq_true rfl, Nat.le_of_ble_eq_true rfl⟩ (Nat.le_of_ble_eq_true rfl) (x_dr DX7_befalls 32 rfl) (fun s17 h => ?_)
          exact r_vret X rfl (x_dr DX7_befalls 33 rfl) ⟨rfl, h⟩
        refine r_icmp_ne X 52 (x_dr DX7_befalls 28 rfl) (by decide) (fun c18 => ?_) (fun c18 => ?_)
        · replace h := h.1 c18
          refine r_iconst (v := 3) X (x_dr DX7_befalls 31 rfl) (by decide) ?_
          refine r_norm X [] ([]) rfl ?_
          exact Jj16 _ h
        · replace h := h.2 c18
          refine r_bipush (v := (-2)) X (x_dr DX7_befalls 29 rfl) (by decide) ?_
          refine r_goto X 53 (x_dr DX7_befalls 30 rfl) (by decide) ?_
          refine r_norm X [] ([]) rfl ?_
          exact Jj16 _ h
    refine r_icmp_ne X 36 (x_dr DX7_befalls 15 rfl) (by decide) (fun c19 => ?_) (fun c19 => ?_)
    · replace h := h.1 c19
      refine r_norm X [0, 2] ([(0, .ref (ad 13 0 0)), (2, .int v2)]) rfl ?_
      exact Jj12 _ h
    · replace h := h.2 c19
      refine r_aload_n X (x_dr DX7_befalls 16 rfl) 0 rfl rfl ?_
      refine r_aload_n X (x_dr DX7_befalls 17 rfl) 0 rfl rfl ?_
      refine gf_7_43 X rfl (x_dr DX7_befalls 18 rfl) ?_
      refine r_iload_n X (x_dr DX7_befalls 19 rfl) 1 rfl rfl ?_
      obtain ⟨b20, h⟩ := h
      refine r_iald X rfl rfl b20 (x_dr DX7_befalls 20 rfl) ?_
      refine cl7_peppers X (k7_peppers h) rfl ml_7_192 ⟨Nat.le_of_ble_eq_true rfl, Nat.le_of_ble_eq_true rfl⟩ (Nat.le_of_ble_eq_true rfl) (x_dr DX7_befalls 21 rfl) (fun s21 h => ?_)
      refine r_norm X [0, 2] ([(0, .ref (ad 13 0 0)), (2, .int v2)]) rfl ?_
      exact Jj12 _ h
  refine r_if_ne X 21 (x_dr DX7_befalls 6 rfl) (by decide) (fun c22 => ?_) (fun c22 => ?_)
  · replace h := h.1 c22
    refine r_norm X [1, 2, 0] ([(0, .ref (ad 13 0 0)), (1, .int a1), (2, .int v2)]) rfl ?_
    exact Jj7 _ h
  · replace h := h.2 c22
    refine r_aload_n X (x_dr DX7_befalls 7 rfl) 1 rfl rfl ?_
    refine r_aload_n X (x_dr DX7_befalls 8 rfl) 1 rfl rfl ?_
    refine gf_7_40 X rfl (x_dr DX7_befalls 9 rfl) ?_
    refine r_iload_n X (x_dr DX7_befalls 10 rfl) 2 rfl rfl ?_
    obtain ⟨b23, h⟩ := h
    refine r_iald X rfl rfl b23 (x_dr DX7_befalls 11 rfl) ?_
    refine cl7_lifts X (k7_lifts h) rfl ml_7_188 ⟨Nat.le_of_ble_eq_true rfl, Nat.le_of_ble_eq_true rfl⟩ (Nat.le_of_ble_eq_true rfl) (x_dr DX7_befalls 12 rfl) (fun s24 h => ?_)
    refine r_norm X [1, 2, 0] ([(0, .ref (ad 13 0 0)), (1, .int a1), (2, .int v2)]) rfl ?_
    exact Jj7 _ h
set_option maxRecDepth 10000 in
theorem k7_isRolled {ad : xAd} {G : xG} {l : Launch} {a1 : Int32} {a2 : Int32} {σ : xSt} {Q : Int32 → xSt → Prop}  (h : d7_isRolled a1 a2 σ Q) : MC ad G l yX7_isRolled cX7_isRolled 3 (some .boolean) 0 0 [.ref (ad 13 0 0), .int a1, .int a2] σ (qZ Q) := by
  unfold d7_isRolled at h
  refine x_MC [(0, .ref (ad 13 0 0)), (1, .int a1), (2, .int a2)] (by decide +kernel) rfl (Nat.le_of_ble_eq_true rfl) ?_
  intro E hG hl X
  replace X : FX ad E cX7_isRolled 3 RX7 (some .boolean) 0 0 := X
  refine r_iload_n X (x_dr DX7_isRolled 0 rfl) 2 rfl rfl ?_
  refine r_aload_n X (x_dr DX7_isRolled 1 rfl) 0 rfl rfl ?_
  refine gf_7_55 X rfl (x_dr DX7_isRolled 2 rfl) ?_
  refine r_iload_n X (x_dr DX7_isRolled 3 rfl) 1 rfl rfl ?_
  obtain ⟨b1, h⟩ := h
  refine r_iald X rfl rfl b1 (x_dr DX7_isRolled 4 rfl) ?_
  refine r_icmp_ge X 14 (x_dr DX7_isRolled 5 rfl) (by decide) (fun c2 => ?_) (fun c2 => ?_)
  · replace h := h.1 c2
    refine r_iconst (v := 0) X (x_dr DX7_isRolled 8 rfl) (by decide) ?_
    exact r_zret X rfl (x_dr DX7_isRolled 9 rfl) (Or.inl rfl) ⟨_, rfl, (Or.inl rfl), h⟩
  · replace h := h.2 c2
    refine r_iconst (v := 1) X (x_dr DX7_isRolled 6 rfl) (by decide) ?_
    refine r_goto X 15 (x_dr DX7_isRolled 7 rfl) (by decide) ?_
    exact r_zret X rfl (x_dr DX7_isRolled 9 rfl) (Or.inr rfl) ⟨_, rfl, (Or.inr rfl), h⟩
set_option maxRecDepth 10000 in
theorem k7_dampNow {ad : xAd} {G : xG} {l : Launch} {a1 : Int32} {σ : xSt} {Q : Int32 → xSt → Prop}  (h : d7_dampNow a1 σ Q) : MC ad G l yX7_dampNow cX7_dampNow 2 (some .int) 2 42 [.ref (ad 13 0 0), .int a1] σ (qI Q) := by
  unfold d7_dampNow at h
  refine x_MC [(0, .ref (ad 13 0 0)), (1, .int a1)] (by decide +kernel) rfl (Nat.le_of_ble_eq_true rfl) ?_
  intro E hG hl X
  replace X : FX ad E cX7_dampNow 2 RX7 (some .int) 2 42 := X
  refine r_iload_n X (x_dr DX7_dampNow 0 rfl) 1 rfl rfl ?_
  refine cl7_isPlace X (k7_isPlace h) ml_7_154 ⟨Nat.le_of_ble_eq_true rfl, Nat.le_of_ble_eq_true rfl⟩ (Nat.le_of_ble_eq_true rfl) (x_dr DX7_dampNow 1 rfl) (fun v2 s1 zv2 h => ?_)
  refine r_if_eq X 16 (x_dr DX7_dampNow 2 rfl) (by decide) (fun c3 => ?_) (fun c3 => ?_)
  · replace h := h.1 c3
    refine r_iconst (v := (-1)) X (x_dr DX7_dampNow 8 rfl) (by decide) ?_
    exact r_iret X rfl (x_dr DX7_dampNow 9 rfl) ⟨_, rfl, h⟩
  · replace h := h.2 c3
    refine r_aload_n X (x_dr DX7_dampNow 3 rfl) 0 rfl rfl ?_
    refine gf_7_46 X rfl (x_dr DX7_dampNow 4 rfl) ?_
    refine r_iload_n X (x_dr DX7_dampNow 5 rfl) 1 rfl rfl ?_
    obtain ⟨b4, h⟩ := h
    refine r_iald X rfl rfl b4 (x_dr DX7_dampNow 6 rfl) ?_
    refine r_goto X 17 (x_dr DX7_dampNow 7 rfl) (by decide) ?_
    exact r_iret X rfl (x_dr DX7_dampNow 9 rfl) ⟨_, rfl, h⟩
set_option maxRecDepth 10000 in
theorem w7_passesOver_L10 {ad : xAd} {E : xE} (X : FX ad E cX7_passesOver 5 RX7 none 1 22)   {a1 : Int32} {a2 : Int32} {K : Int32 → xSt → Prop} {Q : xSt → Prop} : ∀ (n : Nat) (a3 : Int32) (a4 : Int32) (σ : xSt), d7_passesOver_L10 a1 a2 K Q n a3 a4 σ → (∀ (a3 : Int32) (s : xSt), K a3 s → KK ad E (qV Q) 60 ([(0, .ref (ad 13 0 0)), (1, .int a1), (3, .int a3)]) [] s) → KK ad E (qV Q) 10 ([(0, .ref (ad 13 0 0)), (1, .int a1), (2, .int a2), (3, .int a3), (4, .int a4)]) [] σ := by
  intro n
  induction n with
  | zero => intro a3 a4 σ h kk; exact h.elim
  | succ n ih =>
    intro a3 a4 σ h kk
    rw [d7_passesOver_L10] at h
    refine r_iload X (x_dr DX7_passesOver 7 rfl) 4 rfl ?_
    refine r_if_lt X 60 (x_dr DX7_passesOver 8 rfl) (by decide) (fun c2 => ?_) (fun c2 => ?_)
    · replace h := h.1 c2
      refine r_norm X [0, 1, 3] ([(0, .ref (ad 13 0 0)), (1, .int a1), (3, .int a3)]) rfl ?_
      exact kk _ _ h
    · replace h := h.2 c2
      refine r_iload X (x_dr DX7_passesOver 9 rfl) 4 rfl ?_
      refine r_iload_n X (x_dr DX7_passesOver 10 rfl) 1 rfl rfl ?_
      refine r_icmp_eq X 52 (x_dr DX7_passesOver 11 rfl) (by decide) (fun c3 => ?_) (fun c3 => ?_)
      · replace h := h.1 c3
        refine r_iload_n X (x_dr DX7_passesOver 28 rfl) 3 rfl rfl ?_
        refine r_istore_n X ([(3, .int a3), (0, .ref (ad 13 0 0)), (1, .int a1), (2, .int a2), (4, .int a4)]) (x_dr DX7_passesOver 29 rfl) rfl (by decide) rfl ?_
        obtain ⟨v4, ev4⟩ : ∃ z : Int32, z = a4 + (-1) := ⟨_, rfl⟩
        replace h := h v4 ev4
        refine r_iinc (v := v4) X ([(4, .int v4), (3, .int a3), (0, .ref (ad 13 0 0)), (1, .int a1), (2, .int a2)]) 4 (x_dr DX7_passesOver 30 rfl) rfl (by rw [ev4]; rfl) (by decide) rfl ?_
        refine r_goto X 10 (x_dr DX7_passesOver 31 rfl) (by decide) ?_
        refine r_norm X [2, 3, 4, 1, 0] ([(0, .ref (ad 13 0 0)), (1, .int a1), (2, .int a2), (3, .int a3), (4, .int v4)]) rfl ?_
        exact ih _ _ _ h kk
      · replace h := h.2 c3
        refine r_aload_n X (x_dr DX7_passesOver 12 rfl) 0 rfl rfl ?_
        refine gf_7_49 X rfl (x_dr DX7_passesOver 13 rfl) ?_
        refine r_iload X (x_dr DX7_passesOver 14 rfl) 4 rfl ?_
        obtain ⟨b5, h⟩ := h
        refine r_iald X rfl rfl b5 (x_dr DX7_passesOver 15 rfl) ?_
        refine r_aload_n X (x_dr DX7_passesOver 16 rfl) 0 rfl rfl ?_
        refine gf_7_49 X rfl (x_dr DX7_passesOver 17 rfl) ?_
        refine r_iload_n X (x_dr DX7_passesOver 18 rfl) 1 rfl rfl ?_
        obtain ⟨b6, h⟩ := h
        refine r_iald X rfl rfl b6 (x_dr DX7_passesOver 19 rfl) ?_
        refine r_icmp_ne X 52 (x_dr DX7_passesOver 20 rfl) (by decide) (fun c7 => ?_) (fun c7 => ?_)
        · replace h := h.1 c7
          refine r_iload_n X (x_dr DX7_passesOver 28 rfl) 3 rfl rfl ?_
          refine r_istore_n X ([(3, .int a3), (0, .ref (ad 13 0 0)), (1, .int a1), (2, .int a2), (4, .int a4)]) (x_dr DX7_passesOver 29 rfl) rfl (by decide) rfl ?_
          obtain ⟨v8, ev8⟩ : ∃ z : Int32, z = a4 + (-1) := ⟨_, rfl⟩
          replace h := h v8 ev8
          refine r_iinc (v := v8) X ([(4, .int v8), (3, .int a3), (0, .ref (ad 13 0 0)), (1, .int a1), (2, .int a2)]) 4 (x_dr DX7_passesOver 30 rfl) rfl (by rw [ev8]; rfl) (by decide) rfl ?_
          refine r_goto X 10 (x_dr DX7_passesOver 31 rfl) (by decide) ?_
          refine r_norm X [2, 3, 4, 1, 0] ([(0, .ref (ad 13 0 0)), (1, .int a1), (2, .int a2), (3, .int a3), (4, .int v8)]) rfl ?_
          exact ih _ _ _ h kk
        · replace h := h.2 c7
          refine r_aload_n X (x_dr DX7_passesOver 21 rfl) 0 rfl rfl ?_
          refine r_iload X (x_dr DX7_passesOver 22 rfl) 4 rfl ?_
          refine r_iload_n X (x_dr DX7_passesOver 23 rfl) 2 rfl rfl ?_
          refine cl7_isRolled X (k7_isRolled h) rfl ml_7_198 ⟨Nat.le_of_ble_eq_true rfl, Nat.le_of_ble_eq_true rfl⟩ (Nat.le_of_ble_eq_true rfl) (x_dr DX7_passesOver 24 rfl) (fun v10 s9 zv10 h => ?_)
          refine r_if_ne X 52 (x_dr DX7_passesOver 25 rfl) (by decide) (fun c11 => ?_) (fun c11 => ?_)
          · replace h := h.1 c11
            refine r_iload_n X (x_dr DX7_passesOver 28 rfl) 3 rfl rfl ?_
            refine r_istore_n X ([(3, .int a3), (0, .ref (ad 13 0 0)), (1, .int a1), (2, .int a2), (4, .int a4)]) (x_dr DX7_passesOver 29 rfl) rfl (by decide) rfl ?_
            obtain ⟨v12, ev12⟩ : ∃ z : Int32, z = a4 + (-1) := ⟨_, rfl⟩
            replace h := h v12 ev12
            refine r_iinc (v := v12) X ([(4, .int v12), (3, .int a3), (0, .ref (ad 13 0 0)), (1, .int a1), (2, .int a2)]) 4 (x_dr DX7_passesOver 30 rfl) rfl (by rw [ev12]; rfl) (by decide) rfl ?_
            refine r_goto X 10 (x_dr DX7_passesOver 31 rfl) (by decide) ?_
            refine r_norm X [2, 3, 4, 1, 0] ([(0, .ref (ad 13 0 0)), (1, .int a1), (2, .int a2), (3, .int a3), (4, .int v12)]) rfl ?_
            exact ih _ _ _ h kk
          · replace h := h.2 c11
            refine r_iload X (x_dr DX7_passesOver 26 rfl) 4 rfl ?_
            refine r_goto X 53 (x_dr DX7_passesOver 27 rfl) (by decide) ?_
            refine r_istore_n X ([(3, .int a4), (0, .ref (ad 13 0 0)), (1, .int a1), (2, .int a2), (4, .int a4)]) (x_dr DX7_passesOver 29 rfl) rfl (by decide) rfl ?_
            obtain ⟨v13, ev13⟩ : ∃ z : Int32, z = a4 + (-1) := ⟨_, rfl⟩
            replace h := h v13 ev13
            refine r_iinc (v := v13) X ([(4, .int v13), (3, .int a4), (0, .ref (ad 13 0 0)), (1, .int a1), (2, .int a2)]) 4 (x_dr DX7_passesOver 30 rfl) rfl (by rw [ev13]; rfl) (by decide) rfl ?_
            refine r_goto X 10 (x_dr DX7_passesOver 31 rfl) (by decide) ?_
            refine r_norm X [2, 3, 4, 1, 0] ([(0, .ref (ad 13 0 0)), (1, .int a1), (2, .int a2), (3, .int a4), (4, .int v13)]) rfl ?_
            exact ih _ _ _ h kk
set_option maxRecDepth 10000 in
theorem k7_passesOver {ad : xAd} {G : xG} {l : Launch} {a1 : Int32} {a2 : Int32} {σ : xSt} {Q : xSt → Prop}  (h : d7_passesOver a1 a2 σ Q) : MC ad G l yX7_passesOver cX7_passesOver 5 none 1 22 [.ref (ad 13 0 0), .int a1, .int a2] σ (qV Q) := by
  unfold d7_passesOver at h
  refine x_MC [(0, .ref (ad 13 0 0)), (1, .int a1), (2, .int a2)] (by decide +kernel) rfl (Nat.le_of_ble_eq_true rfl) ?_
  intro E hG hl X
  replace X : FX ad E cX7_passesOver 5 RX7 none 1 22 := X
  refine r_iconst (v := (-1)) X (x_dr DX7_passesOver 0 rfl) (by decide) ?_
  refine r_istore_n X ([(3, .int (-1)), (0, .ref (ad 13 0 0)), (1, .int a1), (2, .int a2)]) (x_dr DX7_passesOver 1 rfl) rfl (by decide) rfl ?_
  refine r_aload_n X (x_dr DX7_passesOver 2 rfl) 1 rfl rfl ?_
  refine gf_7_134 X rfl (x_dr DX7_passesOver 3 rfl) ?_
  refine r_iconst (v := 1) X (x_dr DX7_passesOver 4 rfl) (by decide) ?_
  refine r_isub X (x_dr DX7_passesOver 5 rfl) ?_
  refine r_nmI (fun v1 ev1 => ?_)
  replace h := h v1 ev1
  refine r_istore X ([(4, .int v1), (3, .int (-1)), (0, .ref (ad 13 0 0)), (1, .int a1), (2, .int a2)]) (x_dr DX7_passesOver 6 rfl) (by decide) rfl ?_
  refine r_norm X [2, 3, 4, 1, 0] ([(0, .ref (ad 13 0 0)), (1, .int a1), (2, .int a2), (3, .int (-1)), (4, .int v1)]) rfl ?_
  refine w7_passesOver_L10 X  _ _ _ _ h (fun v15 s14 h => ?_)
  refine r_iload_n X (x_dr DX7_passesOver 32 rfl) 2 rfl rfl ?_
  refine r_iconst (v := (-1)) X (x_dr DX7_passesOver 33 rfl) (by decide) ?_
  refine r_icmp_eq X 89 (x_dr DX7_passesOver 34 rfl) (by decide) (fun c16 => ?_) (fun c16 => ?_)
  · replace h := h.1 c16
    exact r_vret X rfl (x_dr DX7_passesOver 53 rfl) ⟨rfl, h⟩
  · replace h := h.2 c16
    refine r_aload_n X (x_dr DX7_passesOver 35 rfl) 0 rfl rfl ?_
    refine gf_7_52 X rfl (x_dr DX7_passesOver 36 rfl) ?_
    refine r_iload_n X (x_dr DX7_passesOver 37 rfl) 2 rfl rfl ?_
    refine r_iconst (v := 1) X (x_dr DX7_passesOver 38 rfl) (by decide) ?_
    refine r_aload_n X (x_dr DX7_passesOver 39 rfl) 0 rfl rfl ?_
    refine gf_7_52 X rfl (x_dr DX7_passesOver 40 rfl) ?_
    refine r_iload_n X (x_dr DX7_passesOver 41 rfl) 2 rfl rfl ?_
    obtain ⟨b17, h⟩ := h
    refine r_iald X rfl rfl b17 (x_dr DX7_passesOver 42 rfl) ?_
    refine r_isub X (x_dr DX7_passesOver 43 rfl) ?_
    obtain ⟨b18, h⟩ := h
    refine r_iast X rfl rfl b18 (x_dr DX7_passesOver 44 rfl) ?_
    refine r_nmS (fun s19 es19 => ?_)
    replace h := h s19 es19
    refine r_aload_n X (x_dr DX7_passesOver 45 rfl) 0 rfl rfl ?_
    refine gf_7_58 X rfl (x_dr DX7_passesOver 46 rfl) ?_
    refine r_iload_n X (x_dr DX7_passesOver 47 rfl) 1 rfl rfl ?_
    refine r_dup2 X (x_dr DX7_passesOver 48 rfl) rfl rfl ?_
    obtain ⟨b20, h⟩ := h
    refine r_iald X rfl rfl b20 (x_dr DX7_passesOver 49 rfl) ?_
    refine r_iconst (v := 1) X (x_dr DX7_passesOver 50 rfl) (by decide) ?_
    refine r_iadd X (x_dr DX7_passesOver 51 rfl) ?_
    obtain ⟨b21, h⟩ := h
    refine r_iast X rfl rfl b21 (x_dr DX7_passesOver 52 rfl) ?_
    refine r_nmS (fun s22 es22 => ?_)
    replace h := h s22 es22
    exact r_vret X rfl (x_dr DX7_passesOver 53 rfl) ⟨rfl, h⟩
set_option maxRecDepth 10000 in
theorem k7_steps {ad : xAd} {G : xG} {l : Launch} {a1 : Int32} {a2 : Int32} {σ : xSt} {Q : xSt → Prop}  (h : d7_steps a1 a2 σ Q) : MC ad G l yX7_steps cX7_steps 6 none 3 63 [.ref (ad 13 0 0), .int a1, .int a2] σ (qV Q) := by
  unfold d7_steps at h
  refine x_MC [(0, .ref (ad 13 0 0)), (1, .int a1), (2, .int a2)] (by decide +kernel) rfl (Nat.le_of_ble_eq_true rfl) ?_
  intro E hG hl X
  replace X : FX ad E cX7_steps 6 RX7 none 3 63 := X
  refine r_aload_n X (x_dr DX7_steps 0 rfl) 0 rfl rfl ?_
  refine r_aload_n X (x_dr DX7_steps 1 rfl) 0 rfl rfl ?_
  refine gf_7_49 X rfl (x_dr DX7_steps 2 rfl) ?_
  refine r_iload_n X (x_dr DX7_steps 3 rfl) 1 rfl rfl ?_
  obtain ⟨b1, h⟩ := h
  refine r_iald X rfl rfl b1 (x_dr DX7_steps 4 rfl) ?_
  refine r_iconst (v := 1) X (x_dr DX7_steps 5 rfl) (by decide) ?_
  refine r_isub X (x_dr DX7_steps 6 rfl) ?_
  refine cl7_dampNow X (k7_dampNow h) rfl ml_7_202 ⟨Nat.le_of_ble_eq_true rfl, Nat.le_of_ble_eq_true rfl⟩ (Nat.le_of_ble_eq_true rfl) (x_dr DX7_steps 7 rfl) (fun v3 s2 h => ?_)
  refine r_istore_n X ([(3, .int v3), (0, .ref (ad 13 0 0)), (1, .int a1), (2, .int a2)]) (x_dr DX7_steps 8 rfl) rfl (by decide) rfl ?_
  refine r_aload_n X (x_dr DX7_steps 9 rfl) 1 rfl rfl ?_
  refine r_aload_n X (x_dr DX7_steps 10 rfl) 1 rfl rfl ?_
  refine gf_7_49 X rfl (x_dr DX7_steps 11 rfl) ?_
  refine r_iload_n X (x_dr DX7_steps 12 rfl) 2 rfl rfl ?_
  obtain ⟨b4, h⟩ := h
  refine r_iald X rfl rfl b4 (x_dr DX7_steps 13 rfl) ?_
  refine r_iconst (v := 1) X (x_dr DX7_steps 14 rfl) (by decide) ?_
  refine r_iadd X (x_dr DX7_steps 15 rfl) ?_
  refine cl7_dampNow X (k7_dampNow h) rfl ml_7_202 ⟨Nat.le_of_ble_eq_true rfl, Nat.le_of_ble_eq_true rfl⟩ (Nat.le_of_ble_eq_true rfl) (x_dr DX7_steps 16 rfl) (fun v6 s5 h => ?_)
  refine r_istore X ([(4, .int v6), (3, .int v3), (0, .ref (ad 13 0 0)), (1, .int a1), (2, .int a2)]) (x_dr DX7_steps 17 rfl) (by decide) rfl ?_
  refine r_iload_n X (x_dr DX7_steps 18 rfl) 1 rfl rfl ?_
  refine r_iload X (x_dr DX7_steps 19 rfl) 0 rfl ?_
  obtain ⟨j9, ej9, h⟩ := x_jn h
  have Jj9 : ∀ (v8 : Int32), j9 v8 → KK ad E (qV Q) 39 ([(0, .ref (ad 13 0 0)), (1, .int a1), (2, .int a2), (3, .int v3), (4, .int v6)]) [.int v8] s5 := by
    intro v8 h
    rw [ej9] at h
    refine r_istore X ([(5, .int v8), (0, .ref (ad 13 0 0)), (1, .int a1), (2, .int a2), (3, .int v3), (4, .int v6)]) (x_dr DX7_steps 24 rfl) (by decide) rfl ?_
    refine r_iload X (x_dr DX7_steps 25 rfl) 0 rfl ?_
    refine r_aload_n X (x_dr DX7_steps 26 rfl) 1 rfl rfl ?_
    refine gf_7_46 X rfl (x_dr DX7_steps 27 rfl) ?_
    refine r_aload_n X (x_dr DX7_steps 28 rfl) 1 rfl rfl ?_
    refine gf_7_49 X rfl (x_dr DX7_steps 29 rfl) ?_
    refine r_iload_n X (x_dr DX7_steps 30 rfl) 2 rfl rfl ?_
    obtain ⟨b10, h⟩ := h
    refine r_iald X rfl rfl b10 (x_dr DX7_steps 31 rfl) ?_
    obtain ⟨b11, h⟩ := h
    refine r_iald X rfl rfl b11 (x_dr DX7_steps 32 rfl) ?_
    refine r_icmp_le X 95 (x_dr DX7_steps 33 rfl) (by decide) (fun c12 => ?_) (fun c12 => ?_)
    · replace h := h.1 c12
      exact r_vret X rfl (x_dr DX7_steps 59 rfl) ⟨rfl, h⟩
    · replace h := h.2 c12
      refine r_aload_n X (x_dr DX7_steps 34 rfl) 1 rfl rfl ?_
      refine gf_7_49 X rfl (x_dr DX7_steps 35 rfl) ?_
      refine r_iload_n X (x_dr DX7_steps 36 rfl) 2 rfl rfl ?_
      refine r_dup2 X (x_dr DX7_steps 37 rfl) rfl rfl ?_
      obtain ⟨b13, h⟩ := h
      refine r_iald X rfl rfl b13 (x_dr DX7_steps 38 rfl) ?_
      refine r_iload_n X (x_dr DX7_steps 39 rfl) 4 rfl rfl ?_
      refine r_iload X (x_dr DX7_steps 40 rfl) 5 rfl ?_
      obtain ⟨j16, ej16, h⟩ := x_jn h
      have Jj16 : ∀ (v15 : Int32), j16 v15 → KK ad E (qV Q) 75 ([(0, .ref (ad 13 0 0)), (1, .int a1), (2, .int a2)]) [.int v15, .int (xA s5 13 18 a1.toNatClampNeg), .int a1, .ref (ad 13 19 0)] s5 := by
        intro v15 h
        rw [ej16] at h
        refine r_iadd X (x_dr DX7_steps 45 rfl) ?_
        obtain ⟨b17, h⟩ := h
        refine r_iast X rfl rfl b17 (x_dr DX7_steps 46 rfl) ?_
        refine r_nmS (fun s18 es18 => ?_)
        replace h := h s18 es18
        refine r_aload_n X (x_dr DX7_steps 47 rfl) 0 rfl rfl ?_
        refine r_dup X (x_dr DX7_steps 48 rfl) rfl ?_
        refine gf_7_205 X rfl (x_dr DX7_steps 49 rfl) ?_
        refine r_iconst (v := 1) X (x_dr DX7_steps 50 rfl) (by decide) ?_
        refine r_iload_n X (x_dr DX7_steps 51 rfl) 1 rfl rfl ?_
        refine r_ishl X (x_dr DX7_steps 52 rfl) ?_
        refine r_ior X (x_dr DX7_steps 53 rfl) ?_
        refine pf_7_205 X rfl (x_dr DX7_steps 54 rfl) ?_
        refine r_nmS (fun s19 es19 => ?_)
        replace h := h s19 es19
        refine r_aload_n X (x_dr DX7_steps 55 rfl) 0 rfl rfl ?_
        refine r_iload_n X (x_dr DX7_steps 56 rfl) 1 rfl rfl ?_
        refine r_iload_n X (x_dr DX7_steps 57 rfl) 2 rfl rfl ?_
        refine cl7_passesOver X (k7_passesOver h) rfl ml_7_208 ⟨Nat.le_of_ble_eq_true rfl, Nat.le_of_ble_eq_true rfl⟩ (Nat.le_of_ble_eq_true rfl) (x_dr DX7_steps 58 rfl) (fun s20 h => ?_)
        exact r_vret X rfl (x_dr DX7_steps 59 rfl) ⟨rfl, h⟩
      refine r_icmp_lt X 74 (x_dr DX7_steps 41 rfl) (by decide) (fun c21 => ?_) (fun c21 => ?_)
      · replace h := h.1 c21
        refine r_iconst (v := 1) X (x_dr DX7_steps 44 rfl) (by decide) ?_
        refine r_norm X [1, 2, 3] ([(0, .ref (ad 13 0 0)), (1, .int a1), (2, .int a2)]) rfl ?_
        exact Jj16 _ h
      · replace h := h.2 c21
        refine r_iconst (v := (-1)) X (x_dr DX7_steps 42 rfl) (by decide) ?_
        refine r_goto X 75 (x_dr DX7_steps 43 rfl) (by decide) ?_
        refine r_norm X [1, 2, 3] ([(0, .ref (ad 13 0 0)), (1, .int a1), (2, .int a2)]) rfl ?_
        exact Jj16 _ h
  refine r_icmp_lt X 37 (x_dr DX7_steps 20 rfl) (by decide) (fun c22 => ?_) (fun c22 => ?_)
  · replace h := h.1 c22
    refine r_iload X (x_dr DX7_steps 23 rfl) 0 rfl ?_
    refine r_norm X [2, 3, 4, 1, 0] ([(0, .ref (ad 13 0 0)), (1, .int a1), (2, .int a2), (3, .int v3), (4, .int v6)]) rfl ?_
    exact Jj9 _ h
  · replace h := h.2 c22
    refine r_iload_n X (x_dr DX7_steps 21 rfl) 1 rfl rfl ?_
    refine r_goto X 39 (x_dr DX7_steps 22 rfl) (by decide) ?_
    refine r_norm X [2, 3, 4, 1, 0] ([(0, .ref (ad 13 0 0)), (1, .int a1), (2, .int a2), (3, .int v3), (4, .int v6)]) rfl ?_
    exact Jj9 _ h
set_option maxRecDepth 10000 in
theorem w7_walks_L38 {ad : xAd} {E : xE} (X : FX ad E cX7_walks 5 RX7 none 4 88)   {a1 : Int32} {a2 : Int32} {a3 : Int32} {K : xSt → Prop} {Q : xSt → Prop} : ∀ (n : Nat) (a4 : Int32) (σ : xSt), d7_walks_L38 a1 a2 a3 K Q n a4 σ → (∀ (s : xSt), K  s → KK ad E (qV Q) 75 ([]) [] s) → KK ad E (qV Q) 38 ([(0, .ref (ad 13 0 0)), (1, .int a1), (2, .int a2), (3, .int a3), (4, .int a4)]) [] σ := by
  intro n
  induction n with
  | zero => intro a4 σ h kk; exact h.elim
  | succ n ih =>
    intro a4 σ h kk
    rw [d7_walks_L38] at h
    refine r_iload X (x_dr DX7_walks 23 rfl) 4 rfl ?_
    refine r_iload_n X (x_dr DX7_walks 24 rfl) 3 rfl rfl ?_
    refine r_icmp_ge X 75 (x_dr DX7_walks 25 rfl) (by decide) (fun c9 => ?_) (fun c9 => ?_)
    · replace h := h.1 c9
      refine r_norm X [] ([]) rfl ?_
      exact kk  _ h
    · replace h := h.2 c9
      refine r_aload_n X (x_dr DX7_walks 26 rfl) 0 rfl rfl ?_
      refine gf_7_52 X rfl (x_dr DX7_walks 27 rfl) ?_
      refine r_iload_n X (x_dr DX7_walks 28 rfl) 1 rfl rfl ?_
      obtain ⟨b10, h⟩ := h
      refine r_iald X rfl rfl b10 (x_dr DX7_walks 29 rfl) ?_
      refine r_iconst (v := 1) X (x_dr DX7_walks 30 rfl) (by decide) ?_
      refine r_icmp_ne X 75 (x_dr DX7_walks 31 rfl) (by decide) (fun c11 => ?_) (fun c11 => ?_)
      · replace h := h.1 c11
        refine r_norm X [] ([]) rfl ?_
        exact kk  _ h
      · replace h := h.2 c11
        refine r_aload_n X (x_dr DX7_walks 32 rfl) 0 rfl rfl ?_
        refine r_iload_n X (x_dr DX7_walks 33 rfl) 1 rfl rfl ?_
        refine r_iload_n X (x_dr DX7_walks 34 rfl) 2 rfl rfl ?_
        refine cl7_isRolled X (k7_isRolled h) rfl ml_7_198 ⟨Nat.le_of_ble_eq_true rfl, Nat.le_of_ble_eq_true rfl⟩ (Nat.le_of_ble_eq_true rfl) (x_dr DX7_walks 35 rfl) (fun v13 s12 zv13 h => ?_)
        refine r_if_ne X 75 (x_dr DX7_walks 36 rfl) (by decide) (fun c14 => ?_) (fun c14 => ?_)
        · replace h := h.1 c14
          refine r_norm X [] ([]) rfl ?_
          exact kk  _ h
        · replace h := h.2 c14
          refine r_aload_n X (x_dr DX7_walks 37 rfl) 0 rfl rfl ?_
          refine r_iload_n X (x_dr DX7_walks 38 rfl) 1 rfl rfl ?_
          refine r_iload_n X (x_dr DX7_walks 39 rfl) 2 rfl rfl ?_
          refine cl7_steps X (k7_steps h) rfl ml_7_212 ⟨Nat.le_of_ble_eq_true rfl, Nat.le_of_ble_eq_true rfl⟩ (Nat.le_of_ble_eq_true rfl) (x_dr DX7_walks 40 rfl) (fun s15 h => ?_)
          obtain ⟨v16, ev16⟩ : ∃ z : Int32, z = a4 + 1 := ⟨_, rfl⟩
          replace h := h v16 ev16
          refine r_iinc (v := v16) X ([(4, .int v16), (0, .ref (ad 13 0 0)), (1, .int a1), (2, .int a2), (3, .int a3)]) 4 (x_dr DX7_walks 41 rfl) rfl (by rw [ev16]; rfl) (by decide) rfl ?_
          refine r_goto X 38 (x_dr DX7_walks 42 rfl) (by decide) ?_
          refine r_norm X [1, 2, 3, 4, 0] ([(0, .ref (ad 13 0 0)), (1, .int a1), (2, .int a2), (3, .int a3), (4, .int v16)]) rfl ?_
          exact ih _ _ h kk
set_option maxRecDepth 10000 in
theorem k7_walks {ad : xAd} {G : xG} {l : Launch} {a1 : Int32} {a2 : Int32} {σ : xSt} {Q : xSt → Prop}  (h : d7_walks a1 a2 σ Q) : MC ad G l yX7_walks cX7_walks 5 none 4 88 [.ref (ad 13 0 0), .int a1, .int a2] σ (qV Q) := by
  unfold d7_walks at h
  refine x_MC [(0, .ref (ad 13 0 0)), (1, .int a1), (2, .int a2)] (by decide +kernel) rfl (Nat.le_of_ble_eq_true rfl) ?_
  intro E hG hl X
  replace X : FX ad E cX7_walks 5 RX7 none 4 88 := X
  refine r_aload_n X (x_dr DX7_walks 0 rfl) 0 rfl rfl ?_
  refine gf_7_19 X rfl (x_dr DX7_walks 1 rfl) ?_
  refine r_iload_n X (x_dr DX7_walks 2 rfl) 1 rfl rfl ?_
  obtain ⟨b1, h⟩ := h
  refine r_iald X rfl rfl b1 (x_dr DX7_walks 3 rfl) ?_
  obtain ⟨j8, ej8, h⟩ := x_jn h
  have Jj8 : ∀ (v7 : Int32), j8 v7 → KK ad E (qV Q) 34 ([(0, .ref (ad 13 0 0)), (1, .int a1), (2, .int a2)]) [.int v7] σ := by
    intro v7 h
    rw [ej8] at h
    refine r_istore_n X ([(3, .int v7), (0, .ref (ad 13 0 0)), (1, .int a1), (2, .int a2)]) (x_dr DX7_walks 20 rfl) rfl (by decide) rfl ?_
    refine r_iconst (v := 0) X (x_dr DX7_walks 21 rfl) (by decide) ?_
    refine r_istore X ([(4, .int 0), (3, .int v7), (0, .ref (ad 13 0 0)), (1, .int a1), (2, .int a2)]) (x_dr DX7_walks 22 rfl) (by decide) rfl ?_
    refine r_norm X [2, 3, 4, 1, 0] ([(0, .ref (ad 13 0 0)), (1, .int a1), (2, .int a2), (3, .int v7), (4, .int 0)]) rfl ?_
    refine w7_walks_L38 X  _ _ _ h (fun s17 h => ?_)
    exact r_vret X rfl (x_dr DX7_walks 43 rfl) ⟨rfl, h⟩
  refine r_if_ne X 13 (x_dr DX7_walks 4 rfl) (by decide) (fun c18 => ?_) (fun c18 => ?_)
  · replace h := h.1 c18
    refine r_aload_n X (x_dr DX7_walks 7 rfl) 0 rfl rfl ?_
    refine gf_7_19 X rfl (x_dr DX7_walks 8 rfl) ?_
    refine r_iload_n X (x_dr DX7_walks 9 rfl) 1 rfl rfl ?_
    obtain ⟨b19, h⟩ := h
    refine r_iald X rfl rfl b19 (x_dr DX7_walks 10 rfl) ?_
    refine r_iconst (v := 1) X (x_dr DX7_walks 11 rfl) (by decide) ?_
    refine r_icmp_eq X 29 (x_dr DX7_walks 12 rfl) (by decide) (fun c20 => ?_) (fun c20 => ?_)
    · replace h := h.1 c20
      refine r_iconst (v := 1) X (x_dr DX7_walks 17 rfl) (by decide) ?_
      refine r_goto X 34 (x_dr DX7_walks 18 rfl) (by decide) ?_
      refine r_norm X [0, 1, 2] ([(0, .ref (ad 13 0 0)), (1, .int a1), (2, .int a2)]) rfl ?_
      exact Jj8 _ h
    · replace h := h.2 c20
      refine r_iload_n X (x_dr DX7_walks 13 rfl) 2 rfl rfl ?_
      refine r_iconst (v := 2) X (x_dr DX7_walks 14 rfl) (by decide) ?_
      obtain ⟨b21, h⟩ := h
      refine r_irem X (x_dr DX7_walks 15 rfl) b21 ?_
      refine r_if_ne X 33 (x_dr DX7_walks 16 rfl) (by decide) (fun c22 => ?_) (fun c22 => ?_)
      · replace h := h.1 c22
        refine r_iconst (v := 0) X (x_dr DX7_walks 19 rfl) (by decide) ?_
        refine r_norm X [0, 1, 2] ([(0, .ref (ad 13 0 0)), (1, .int a1), (2, .int a2)]) rfl ?_
        exact Jj8 _ h
      · replace h := h.2 c22
        refine r_iconst (v := 1) X (x_dr DX7_walks 17 rfl) (by decide) ?_
        refine r_goto X 34 (x_dr DX7_walks 18 rfl) (by decide) ?_
        refine r_norm X [0, 1, 2] ([(0, .ref (ad 13 0 0)), (1, .int a1), (2, .int a2)]) rfl ?_
        exact Jj8 _ h
  · replace h := h.2 c18
    refine r_iconst (v := 2) X (x_dr DX7_walks 5 rfl) (by decide) ?_
    refine r_goto X 34 (x_dr DX7_walks 6 rfl) (by decide) ?_
    refine r_norm X [0, 1, 2] ([(0, .ref (ad 13 0 0)), (1, .int a1), (2, .int a2)]) rfl ?_
    exact Jj8 _ h
set_option maxRecDepth 10000 in
theorem w7_manyAt_L5 {ad : xAd} {E : xE} (X : FX ad E cX7_manyAt 5 RX7 (some .int) 0 0)   {a1 : Int32} {a2 : Int32} {K : Int32 → xSt → Prop} {Q : Int32 → xSt → Prop} : ∀ (n : Nat) (a3 : Int32) (a4 : Int32) (σ : xSt), d7_manyAt_L5 a1 a2 K Q n a3 a4 σ → (∀ (a3 : Int32) (s : xSt), K a3 s → KK ad E (qI Q) 44 ([(3, .int a3)]) [] s) → KK ad E (qI Q) 5 ([(0, .ref (ad 13 0 0)), (1, .int a1), (2, .int a2), (3, .int a3), (4, .int a4)]) [] σ := by
  intro n
  induction n with
  | zero => intro a3 a4 σ h kk; exact h.elim
  | succ n ih =>
    intro a3 a4 σ h kk
    rw [d7_manyAt_L5] at h
    refine r_iload X (x_dr DX7_manyAt 4 rfl) 4 rfl ?_
    refine r_aload_n X (x_dr DX7_manyAt 5 rfl) 0 rfl rfl ?_
    refine gf_7_134 X rfl (x_dr DX7_manyAt 6 rfl) ?_
    refine r_icmp_ge X 44 (x_dr DX7_manyAt 7 rfl) (by decide) (fun c1 => ?_) (fun c1 => ?_)
    · replace h := h.1 c1
      refine r_norm X [3] ([(3, .int a3)]) rfl ?_
      exact kk _ _ h
    · replace h := h.2 c1
      refine r_iload_n X (x_dr DX7_manyAt 8 rfl) 3 rfl rfl ?_
      refine r_aload_n X (x_dr DX7_manyAt 9 rfl) 0 rfl rfl ?_
      refine gf_7_64 X rfl (x_dr DX7_manyAt 10 rfl) ?_
      refine r_bipush (v := 8) X (x_dr DX7_manyAt 11 rfl) (by decide) ?_
      refine r_iload_n X (x_dr DX7_manyAt 12 rfl) 1 rfl rfl ?_
      refine r_imul X (x_dr DX7_manyAt 13 rfl) ?_
      refine r_iload X (x_dr DX7_manyAt 14 rfl) 4 rfl ?_
      refine r_iadd X (x_dr DX7_manyAt 15 rfl) ?_
      obtain ⟨b2, h⟩ := h
      refine r_iald X rfl rfl b2 (x_dr DX7_manyAt 16 rfl) ?_
      refine r_iload_n X (x_dr DX7_manyAt 17 rfl) 2 rfl rfl ?_
      obtain ⟨j5, ej5, h⟩ := x_jn h
      have Jj5 : ∀ (v4 : Int32), j5 v4 → KK ad E (qI Q) 36 ([(0, .ref (ad 13 0 0)), (1, .int a1), (2, .int a2), (4, .int a4)]) [.int v4, .int a3] σ := by
        intro v4 h
        rw [ej5] at h
        refine r_iadd X (x_dr DX7_manyAt 22 rfl) ?_
        refine r_nmI (fun v6 ev6 => ?_)
        replace h := h v6 ev6
        refine r_istore_n X ([(3, .int v6), (0, .ref (ad 13 0 0)), (1, .int a1), (2, .int a2), (4, .int a4)]) (x_dr DX7_manyAt 23 rfl) rfl (by decide) rfl ?_
        obtain ⟨v7, ev7⟩ : ∃ z : Int32, z = a4 + 1 := ⟨_, rfl⟩
        replace h := h v7 ev7
        refine r_iinc (v := v7) X ([(4, .int v7), (3, .int v6), (0, .ref (ad 13 0 0)), (1, .int a1), (2, .int a2)]) 4 (x_dr DX7_manyAt 24 rfl) rfl (by rw [ev7]; rfl) (by decide) rfl ?_
        refine r_goto X 5 (x_dr DX7_manyAt 25 rfl) (by decide) ?_
        refine r_norm X [2, 3, 4, 1, 0] ([(0, .ref (ad 13 0 0)), (1, .int a1), (2, .int a2), (3, .int v6), (4, .int v7)]) rfl ?_
        exact ih _ _ _ h kk
      refine r_icmp_ne X 35 (x_dr DX7_manyAt 18 rfl) (by decide) (fun c8 => ?_) (fun c8 => ?_)
      · replace h := h.1 c8
        refine r_iconst (v := 0) X (x_dr DX7_manyAt 21 rfl) (by decide) ?_
        refine r_norm X [0, 1, 2, 4] ([(0, .ref (ad 13 0 0)), (1, .int a1), (2, .int a2), (4, .int a4)]) rfl ?_
        exact Jj5 _ h
      · replace h := h.2 c8
        refine r_iconst (v := 1) X (x_dr DX7_manyAt 19 rfl) (by decide) ?_
        refine r_goto X 36 (x_dr DX7_manyAt 20 rfl) (by decide) ?_
        refine r_norm X [0, 1, 2, 4] ([(0, .ref (ad 13 0 0)), (1, .int a1), (2, .int a2), (4, .int a4)]) rfl ?_
        exact Jj5 _ h
set_option maxRecDepth 10000 in
theorem k7_manyAt {ad : xAd} {G : xG} {l : Launch} {a1 : Int32} {a2 : Int32} {σ : xSt} {Q : Int32 → xSt → Prop}  (h : d7_manyAt a1 a2 σ Q) : MC ad G l yX7_manyAt cX7_manyAt 5 (some .int) 0 0 [.ref (ad 13 0 0), .int a1, .int a2] σ (qI Q) := by
  unfold d7_manyAt at h
  refine x_MC [(0, .ref (ad 13 0 0)), (1, .int a1), (2, .int a2)] (by decide +kernel) rfl (Nat.le_of_ble_eq_true rfl) ?_
  intro E hG hl X
  replace X : FX ad E cX7_manyAt 5 RX7 (some .int) 0 0 := X
  refine r_iconst (v := 0) X (x_dr DX7_manyAt 0 rfl) (by decide) ?_
  refine r_istore_n X ([(3, .int 0), (0, .ref (ad 13 0 0)), (1, .int a1), (2, .int a2)]) (x_dr DX7_manyAt 1 rfl) rfl (by decide) rfl ?_
  refine r_iconst (v := 0) X (x_dr DX7_manyAt 2 rfl) (by decide) ?_
  refine r_istore X ([(4, .int 0), (3, .int 0), (0, .ref (ad 13 0 0)), (1, .int a1), (2, .int a2)]) (x_dr DX7_manyAt 3 rfl) (by decide) rfl ?_
  refine r_norm X [2, 3, 4, 1, 0] ([(0, .ref (ad 13 0 0)), (1, .int a1), (2, .int a2), (3, .int 0), (4, .int 0)]) rfl ?_
  refine w7_manyAt_L5 X  _ _ _ _ h (fun v10 s9 h => ?_)
  refine r_iload_n X (x_dr DX7_manyAt 26 rfl) 0 rfl rfl ?_
  exact r_iret X rfl (x_dr DX7_manyAt 27 rfl) ⟨_, rfl, h⟩
set_option maxRecDepth 10000 in
theorem w7_divides_L23 {ad : xAd} {E : xE} (X : FX ad E cX7_divides 4 RX7 none 1 22)   {a1 : Int32} {K : xSt → Prop} {Q : xSt → Prop} : ∀ (n : Nat) (a2 : Int32) (σ : xSt), d7_divides_L23 a1 K Q n a2 σ → (∀ (s : xSt), K  s → KK ad E (qV Q) 119 ([]) [] s) → KK ad E (qV Q) 23 ([(0, .ref (ad 13 0 0)), (1, .int a1), (2, .int a2)]) [] σ := by
  intro n
  induction n with
  | zero => intro a2 σ h kk; exact h.elim
  | succ n ih =>
    intro a2 σ h kk
    rw [d7_divides_L23] at h
    refine r_iload_n X (x_dr DX7_divides 17 rfl) 2 rfl rfl ?_
    refine r_aload_n X (x_dr DX7_divides 18 rfl) 0 rfl rfl ?_
    refine gf_7_134 X rfl (x_dr DX7_divides 19 rfl) ?_
    refine r_icmp_ge X 119 (x_dr DX7_divides 20 rfl) (by decide) (fun c7 => ?_) (fun c7 => ?_)
    · replace h := h.1 c7
      refine r_norm X [] ([]) rfl ?_
      exact kk  _ h
    · replace h := h.2 c7
      refine r_aload_n X (x_dr DX7_divides 21 rfl) 0 rfl rfl ?_
      refine r_iload_n X (x_dr DX7_divides 22 rfl) 2 rfl rfl ?_
      refine r_iload_n X (x_dr DX7_divides 23 rfl) 1 rfl rfl ?_
      refine cl7_isRolled X (k7_isRolled h) rfl ml_7_198 ⟨Nat.le_of_ble_eq_true rfl, Nat.le_of_ble_eq_true rfl⟩ (Nat.le_of_ble_eq_true rfl) (x_dr DX7_divides 24 rfl) (fun v9 s8 zv9 h => ?_)
      refine r_istore_n X ([(3, .int v9), (0, .ref (ad 13 0 0)), (1, .int a1), (2, .int a2)]) (x_dr DX7_divides 25 rfl) rfl (by decide) rfl ?_
      refine r_aload_n X (x_dr DX7_divides 26 rfl) 1 rfl rfl ?_
      refine gf_7_73 X rfl (x_dr DX7_divides 27 rfl) ?_
      refine r_iload_n X (x_dr DX7_divides 28 rfl) 2 rfl rfl ?_
      refine r_dup2 X (x_dr DX7_divides 29 rfl) rfl rfl ?_
      obtain ⟨b10, h⟩ := h
      refine r_iald X rfl rfl b10 (x_dr DX7_divides 30 rfl) ?_
      refine r_iload_n X (x_dr DX7_divides 31 rfl) 0 rfl rfl ?_
      obtain ⟨j13, ej13, h⟩ := x_jn h
      have Jj13 : ∀ (v12 : Int32), j13 v12 → KK ad E (qV Q) 56 ([(0, .ref (ad 13 0 0)), (1, .int a1), (2, .int a2), (3, .int v9)]) [.int v12, .int (xA s8 13 27 a1.toNatClampNeg), .int a1, .ref (ad 13 28 0)] s8 := by
        intro v12 h
        rw [ej13] at h
        refine r_ior X (x_dr DX7_divides 38 rfl) ?_
        obtain ⟨b14, h⟩ := h
        refine r_iast X rfl rfl b14 (x_dr DX7_divides 39 rfl) ?_
        refine r_nmS (fun s15 es15 => ?_)
        replace h := h s15 es15
        refine r_aload_n X (x_dr DX7_divides 40 rfl) 0 rfl rfl ?_
        refine gf_7_76 X rfl (x_dr DX7_divides 41 rfl) ?_
        refine r_iload_n X (x_dr DX7_divides 42 rfl) 1 rfl rfl ?_
        refine r_dup2 X (x_dr DX7_divides 43 rfl) rfl rfl ?_
        obtain ⟨b16, h⟩ := h
        refine r_iald X rfl rfl b16 (x_dr DX7_divides 44 rfl) ?_
        refine r_iload_n X (x_dr DX7_divides 45 rfl) 3 rfl rfl ?_
        obtain ⟨j21, ej21, h⟩ := x_jn h
        have Jj21 : ∀ (v20 : Int32), j21 v20 → KK ad E (qV Q) 84 ([(0, .ref (ad 13 0 0)), (1, .int a1), (2, .int a2), (3, .int v9)]) [.int v20, .int (xA s15 13 28 a1.toNatClampNeg), .int a1, .ref (ad 13 29 0)] s15 := by
          intro v20 h
          rw [ej21] at h
          refine r_iadd X (x_dr DX7_divides 56 rfl) ?_
          obtain ⟨b22, h⟩ := h
          refine r_iast X rfl rfl b22 (x_dr DX7_divides 57 rfl) ?_
          refine r_nmS (fun s23 es23 => ?_)
          replace h := h s23 es23
          refine r_aload_n X (x_dr DX7_divides 58 rfl) 0 rfl rfl ?_
          refine gf_7_79 X rfl (x_dr DX7_divides 59 rfl) ?_
          refine r_iload_n X (x_dr DX7_divides 60 rfl) 1 rfl rfl ?_
          refine r_dup2 X (x_dr DX7_divides 61 rfl) rfl rfl ?_
          obtain ⟨b24, h⟩ := h
          refine r_iald X rfl rfl b24 (x_dr DX7_divides 62 rfl) ?_
          refine r_iload_n X (x_dr DX7_divides 63 rfl) 3 rfl rfl ?_
          obtain ⟨j29, ej29, h⟩ := x_jn h
          have Jj29 : ∀ (v28 : Int32), j29 v28 → KK ad E (qV Q) 111 ([(0, .ref (ad 13 0 0)), (1, .int a1), (2, .int a2)]) [.int v28, .int (xA s23 13 29 a1.toNatClampNeg), .int a1, .ref (ad 13 30 0)] s23 := by
            intro v28 h
            rw [ej29] at h
            refine r_iadd X (x_dr DX7_divides 73 rfl) ?_
            obtain ⟨b30, h⟩ := h
            refine r_iast X rfl rfl b30 (x_dr DX7_divides 74 rfl) ?_
            refine r_nmS (fun s31 es31 => ?_)
            replace h := h s31 es31
            obtain ⟨v32, ev32⟩ : ∃ z : Int32, z = a2 + 1 := ⟨_, rfl⟩
            replace h := h v32 ev32
            refine r_iinc (v := v32) X ([(2, .int v32), (0, .ref (ad 13 0 0)), (1, .int a1)]) 2 (x_dr DX7_divides 75 rfl) rfl (by rw [ev32]; rfl) (by decide) rfl ?_
            refine r_goto X 23 (x_dr DX7_divides 76 rfl) (by decide) ?_
            refine r_norm X [1, 2, 0] ([(0, .ref (ad 13 0 0)), (1, .int a1), (2, .int v32)]) rfl ?_
            exact ih _ _ h kk
          refine r_if_ne X 110 (x_dr DX7_divides 64 rfl) (by decide) (fun c33 => ?_) (fun c33 => ?_)
          · replace h := h.1 c33
            refine r_iconst (v := 0) X (x_dr DX7_divides 72 rfl) (by decide) ?_
            refine r_norm X [0, 1, 2] ([(0, .ref (ad 13 0 0)), (1, .int a1), (2, .int a2)]) rfl ?_
            exact Jj29 _ h
          · replace h := h.2 c33
            refine r_aload_n X (x_dr DX7_divides 65 rfl) 0 rfl rfl ?_
            refine gf_7_52 X rfl (x_dr DX7_divides 66 rfl) ?_
            refine r_iload_n X (x_dr DX7_divides 67 rfl) 2 rfl rfl ?_
            obtain ⟨b34, h⟩ := h
            refine r_iald X rfl rfl b34 (x_dr DX7_divides 68 rfl) ?_
            refine r_if_ne X 110 (x_dr DX7_divides 69 rfl) (by decide) (fun c35 => ?_) (fun c35 => ?_)
            · replace h := h.1 c35
              refine r_iconst (v := 0) X (x_dr DX7_divides 72 rfl) (by decide) ?_
              refine r_norm X [0, 1, 2] ([(0, .ref (ad 13 0 0)), (1, .int a1), (2, .int a2)]) rfl ?_
              exact Jj29 _ h
            · replace h := h.2 c35
              refine r_iconst (v := 1) X (x_dr DX7_divides 70 rfl) (by decide) ?_
              refine r_goto X 111 (x_dr DX7_divides 71 rfl) (by decide) ?_
              refine r_norm X [0, 1, 2] ([(0, .ref (ad 13 0 0)), (1, .int a1), (2, .int a2)]) rfl ?_
              exact Jj29 _ h
        refine r_if_ne X 83 (x_dr DX7_divides 46 rfl) (by decide) (fun c36 => ?_) (fun c36 => ?_)
        · replace h := h.1 c36
          refine r_iconst (v := 0) X (x_dr DX7_divides 55 rfl) (by decide) ?_
          refine r_norm X [0, 1, 2, 3] ([(0, .ref (ad 13 0 0)), (1, .int a1), (2, .int a2), (3, .int v9)]) rfl ?_
          exact Jj21 _ h
        · replace h := h.2 c36
          refine r_aload_n X (x_dr DX7_divides 47 rfl) 0 rfl rfl ?_
          refine gf_7_52 X rfl (x_dr DX7_divides 48 rfl) ?_
          refine r_iload_n X (x_dr DX7_divides 49 rfl) 2 rfl rfl ?_
          obtain ⟨b37, h⟩ := h
          refine r_iald X rfl rfl b37 (x_dr DX7_divides 50 rfl) ?_
          refine r_iconst (v := 1) X (x_dr DX7_divides 51 rfl) (by decide) ?_
          refine r_icmp_ne X 83 (x_dr DX7_divides 52 rfl) (by decide) (fun c38 => ?_) (fun c38 => ?_)
          · replace h := h.1 c38
            refine r_iconst (v := 0) X (x_dr DX7_divides 55 rfl) (by decide) ?_
            refine r_norm X [0, 1, 2, 3] ([(0, .ref (ad 13 0 0)), (1, .int a1), (2, .int a2), (3, .int v9)]) rfl ?_
            exact Jj21 _ h
          · replace h := h.2 c38
            refine r_iconst (v := 1) X (x_dr DX7_divides 53 rfl) (by decide) ?_
            refine r_goto X 84 (x_dr DX7_divides 54 rfl) (by decide) ?_
            refine r_norm X [0, 1, 2, 3] ([(0, .ref (ad 13 0 0)), (1, .int a1), (2, .int a2), (3, .int v9)]) rfl ?_
            exact Jj21 _ h
      refine r_if_eq X 55 (x_dr DX7_divides 32 rfl) (by decide) (fun c39 => ?_) (fun c39 => ?_)
      · replace h := h.1 c39
        refine r_iconst (v := 0) X (x_dr DX7_divides 37 rfl) (by decide) ?_
        refine r_norm X [1, 2, 3, 0] ([(0, .ref (ad 13 0 0)), (1, .int a1), (2, .int a2), (3, .int v9)]) rfl ?_
        exact Jj13 _ h
      · replace h := h.2 c39
        refine r_iconst (v := 1) X (x_dr DX7_divides 33 rfl) (by decide) ?_
        refine r_iload_n X (x_dr DX7_divides 34 rfl) 3 rfl rfl ?_
        refine r_ishl X (x_dr DX7_divides 35 rfl) ?_
        refine r_goto X 56 (x_dr DX7_divides 36 rfl) (by decide) ?_
        refine r_norm X [1, 2, 3, 0] ([(0, .ref (ad 13 0 0)), (1, .int a1), (2, .int a2), (3, .int v9)]) rfl ?_
        exact Jj13 _ h
set_option maxRecDepth 10000 in
theorem k7_divides {ad : xAd} {G : xG} {l : Launch} {a1 : Int32} {σ : xSt} {Q : xSt → Prop}  (h : d7_divides a1 σ Q) : MC ad G l yX7_divides cX7_divides 4 none 1 22 [.ref (ad 13 0 0), .int a1] σ (qV Q) := by
  unfold d7_divides at h
  refine x_MC [(0, .ref (ad 13 0 0)), (1, .int a1)] (by decide +kernel) rfl (Nat.le_of_ble_eq_true rfl) ?_
  intro E hG hl X
  replace X : FX ad E cX7_divides 4 RX7 none 1 22 := X
  refine r_aload_n X (x_dr DX7_divides 0 rfl) 0 rfl rfl ?_
  refine gf_7_76 X rfl (x_dr DX7_divides 1 rfl) ?_
  refine r_iload_n X (x_dr DX7_divides 2 rfl) 1 rfl rfl ?_
  refine r_iconst (v := 0) X (x_dr DX7_divides 3 rfl) (by decide) ?_
  obtain ⟨b1, h⟩ := h
  refine r_iast X rfl rfl b1 (x_dr DX7_divides 4 rfl) ?_
  refine r_nmS (fun s2 es2 => ?_)
  replace h := h s2 es2
  refine r_aload_n X (x_dr DX7_divides 5 rfl) 0 rfl rfl ?_
  refine gf_7_79 X rfl (x_dr DX7_divides 6 rfl) ?_
  refine r_iload_n X (x_dr DX7_divides 7 rfl) 1 rfl rfl ?_
  refine r_iconst (v := 0) X (x_dr DX7_divides 8 rfl) (by decide) ?_
  obtain ⟨b3, h⟩ := h
  refine r_iast X rfl rfl b3 (x_dr DX7_divides 9 rfl) ?_
  refine r_nmS (fun s4 es4 => ?_)
  replace h := h s4 es4
  refine r_aload_n X (x_dr DX7_divides 10 rfl) 0 rfl rfl ?_
  refine gf_7_73 X rfl (x_dr DX7_divides 11 rfl) ?_
  refine r_iload_n X (x_dr DX7_divides 12 rfl) 1 rfl rfl ?_
  refine r_iconst (v := 0) X (x_dr DX7_divides 13 rfl) (by decide) ?_
  obtain ⟨b5, h⟩ := h
  refine r_iast X rfl rfl b5 (x_dr DX7_divides 14 rfl) ?_
  refine r_nmS (fun s6 es6 => ?_)
  replace h := h s6 es6
  refine r_iconst (v := 0) X (x_dr DX7_divides 15 rfl) (by decide) ?_
  refine r_istore_n X ([(2, .int 0), (0, .ref (ad 13 0 0)), (1, .int a1)]) (x_dr DX7_divides 16 rfl) rfl (by decide) rfl ?_
  refine r_norm X [1, 2, 0] ([(0, .ref (ad 13 0 0)), (1, .int a1), (2, .int 0)]) rfl ?_
  refine w7_divides_L23 X  _ _ _ h (fun s40 h => ?_)
  exact r_vret X rfl (x_dr DX7_divides 77 rfl) ⟨rfl, h⟩
set_option maxRecDepth 10000 in
theorem w7_goesBy_L2 {ad : xAd} {E : xE} (X : FX ad E cX7_goesBy 3 RX7 none 5 112)   {a1 : Int32} {K : xSt → Prop} {Q : xSt → Prop} : ∀ (n : Nat) (a2 : Int32) (σ : xSt), d7_goesBy_L2 a1 K Q n a2 σ → (∀ (s : xSt), K  s → KK ad E (qV Q) 42 ([(0, .ref (ad 13 0 0)), (1, .int a1)]) [] s) → KK ad E (qV Q) 2 ([(0, .ref (ad 13 0 0)), (1, .int a1), (2, .int a2)]) [] σ := by
  intro n
  induction n with
  | zero => intro a2 σ h kk; exact h.elim
  | succ n ih =>
    intro a2 σ h kk
    rw [d7_goesBy_L2] at h
    refine r_iload_n X (x_dr DX7_goesBy 2 rfl) 2 rfl rfl ?_
    refine r_aload_n X (x_dr DX7_goesBy 3 rfl) 0 rfl rfl ?_
    refine gf_7_182 X rfl (x_dr DX7_goesBy 4 rfl) ?_
    refine r_icmp_ge X 42 (x_dr DX7_goesBy 5 rfl) (by decide) (fun c1 => ?_) (fun c1 => ?_)
    · replace h := h.1 c1
      refine r_norm X [0, 1] ([(0, .ref (ad 13 0 0)), (1, .int a1)]) rfl ?_
      exact kk  _ h
    · replace h := h.2 c1
      refine r_aload_n X (x_dr DX7_goesBy 6 rfl) 0 rfl rfl ?_
      refine gf_7_40 X rfl (x_dr DX7_goesBy 7 rfl) ?_
      refine r_iload_n X (x_dr DX7_goesBy 8 rfl) 2 rfl rfl ?_
      obtain ⟨b2, h⟩ := h
      refine r_iald X rfl rfl b2 (x_dr DX7_goesBy 9 rfl) ?_
      refine r_iload_n X (x_dr DX7_goesBy 10 rfl) 1 rfl rfl ?_
      refine r_icmp_ne X 36 (x_dr DX7_goesBy 11 rfl) (by decide) (fun c3 => ?_) (fun c3 => ?_)
      · replace h := h.1 c3
        obtain ⟨v4, ev4⟩ : ∃ z : Int32, z = a2 + 1 := ⟨_, rfl⟩
        replace h := h v4 ev4
        refine r_iinc (v := v4) X ([(2, .int v4), (0, .ref (ad 13 0 0)), (1, .int a1)]) 2 (x_dr DX7_goesBy 20 rfl) rfl (by rw [ev4]; rfl) (by decide) rfl ?_
        refine r_goto X 2 (x_dr DX7_goesBy 21 rfl) (by decide) ?_
        refine r_norm X [1, 2, 0] ([(0, .ref (ad 13 0 0)), (1, .int a1), (2, .int v4)]) rfl ?_
        exact ih _ _ h kk
      · replace h := h.2 c3
        refine r_aload_n X (x_dr DX7_goesBy 12 rfl) 0 rfl rfl ?_
        refine gf_7_185 X rfl (x_dr DX7_goesBy 13 rfl) ?_
        refine r_iload_n X (x_dr DX7_goesBy 14 rfl) 2 rfl rfl ?_
        refine cl7_isIn X (k7_isIn h) ml_7_215 ⟨Nat.le_of_ble_eq_true rfl, Nat.le_of_ble_eq_true rfl⟩ (Nat.le_of_ble_eq_true rfl) (x_dr DX7_goesBy 15 rfl) (fun v6 s5 zv6 h => ?_)
        refine r_if_ne X 36 (x_dr DX7_goesBy 16 rfl) (by decide) (fun c7 => ?_) (fun c7 => ?_)
        · replace h := h.1 c7
          obtain ⟨v8, ev8⟩ : ∃ z : Int32, z = a2 + 1 := ⟨_, rfl⟩
          replace h := h v8 ev8
          refine r_iinc (v := v8) X ([(2, .int v8), (0, .ref (ad 13 0 0)), (1, .int a1)]) 2 (x_dr DX7_goesBy 20 rfl) rfl (by rw [ev8]; rfl) (by decide) rfl ?_
          refine r_goto X 2 (x_dr DX7_goesBy 21 rfl) (by decide) ?_
          refine r_norm X [1, 2, 0] ([(0, .ref (ad 13 0 0)), (1, .int a1), (2, .int v8)]) rfl ?_
          exact ih _ _ h kk
        · replace h := h.2 c7
          refine r_aload_n X (x_dr DX7_goesBy 17 rfl) 0 rfl rfl ?_
          refine r_iload_n X (x_dr DX7_goesBy 18 rfl) 2 rfl rfl ?_
          refine cl7_befalls X (k7_befalls h) rfl ml_7_218 ⟨Nat.le_of_ble_eq_true rfl, Nat.le_of_ble_eq_true rfl⟩ (Nat.le_of_ble_eq_true rfl) (x_dr DX7_goesBy 19 rfl) (fun s9 h => ?_)
          obtain ⟨v10, ev10⟩ : ∃ z : Int32, z = a2 + 1 := ⟨_, rfl⟩
          replace h := h v10 ev10
          refine r_iinc (v := v10) X ([(2, .int v10), (0, .ref (ad 13 0 0)), (1, .int a1)]) 2 (x_dr DX7_goesBy 20 rfl) rfl (by rw [ev10]; rfl) (by decide) rfl ?_
          refine r_goto X 2 (x_dr DX7_goesBy 21 rfl) (by decide) ?_
          refine r_norm X [1, 2, 0] ([(0, .ref (ad 13 0 0)), (1, .int a1), (2, .int v10)]) rfl ?_
          exact ih _ _ h kk
set_option maxRecDepth 10000 in
theorem w7_goesBy_L44 {ad : xAd} {E : xE} (X : FX ad E cX7_goesBy 3 RX7 none 5 112)   {a1 : Int32} {K : xSt → Prop} {Q : xSt → Prop} : ∀ (n : Nat) (a2 : Int32) (σ : xSt), d7_goesBy_L44 a1 K Q n a2 σ → (∀ (s : xSt), K  s → KK ad E (qV Q) 64 ([(0, .ref (ad 13 0 0)), (1, .int a1)]) [] s) → KK ad E (qV Q) 44 ([(0, .ref (ad 13 0 0)), (1, .int a1), (2, .int a2)]) [] σ := by
  intro n
  induction n with
  | zero => intro a2 σ h kk; exact h.elim
  | succ n ih =>
    intro a2 σ h kk
    rw [d7_goesBy_L44] at h
    refine r_iload_n X (x_dr DX7_goesBy 24 rfl) 2 rfl rfl ?_
    refine r_aload_n X (x_dr DX7_goesBy 25 rfl) 0 rfl rfl ?_
    refine gf_7_134 X rfl (x_dr DX7_goesBy 26 rfl) ?_
    refine r_icmp_ge X 64 (x_dr DX7_goesBy 27 rfl) (by decide) (fun c12 => ?_) (fun c12 => ?_)
    · replace h := h.1 c12
      refine r_norm X [0, 1] ([(0, .ref (ad 13 0 0)), (1, .int a1)]) rfl ?_
      exact kk  _ h
    · replace h := h.2 c12
      refine r_aload_n X (x_dr DX7_goesBy 28 rfl) 0 rfl rfl ?_
      refine r_iload_n X (x_dr DX7_goesBy 29 rfl) 2 rfl rfl ?_
      refine r_iload_n X (x_dr DX7_goesBy 30 rfl) 1 rfl rfl ?_
      refine cl7_walks X (k7_walks h) rfl ml_7_221 ⟨Nat.le_of_ble_eq_true rfl, Nat.le_of_ble_eq_true rfl⟩ (Nat.le_of_ble_eq_true rfl) (x_dr DX7_goesBy 31 rfl) (fun s13 h => ?_)
      obtain ⟨v14, ev14⟩ : ∃ z : Int32, z = a2 + 1 := ⟨_, rfl⟩
      replace h := h v14 ev14
      refine r_iinc (v := v14) X ([(2, .int v14), (0, .ref (ad 13 0 0)), (1, .int a1)]) 2 (x_dr DX7_goesBy 32 rfl) rfl (by rw [ev14]; rfl) (by decide) rfl ?_
      refine r_goto X 44 (x_dr DX7_goesBy 33 rfl) (by decide) ?_
      refine r_norm X [1, 2, 0] ([(0, .ref (ad 13 0 0)), (1, .int a1), (2, .int v14)]) rfl ?_
      exact ih _ _ h kk
set_option maxRecDepth 10000 in
theorem w7_goesBy_L66 {ad : xAd} {E : xE} (X : FX ad E cX7_goesBy 3 RX7 none 5 112)   {a1 : Int32} {K : xSt → Prop} {Q : xSt → Prop} : ∀ (n : Nat) (a2 : Int32) (σ : xSt), d7_goesBy_L66 a1 K Q n a2 σ → (∀ (s : xSt), K  s → KK ad E (qV Q) 131 ([(0, .ref (ad 13 0 0)), (1, .int a1)]) [] s) → KK ad E (qV Q) 66 ([(0, .ref (ad 13 0 0)), (1, .int a1), (2, .int a2)]) [] σ := by
  intro n
  induction n with
  | zero => intro a2 σ h kk; exact h.elim
  | succ n ih =>
    intro a2 σ h kk
    rw [d7_goesBy_L66] at h
    refine r_iload_n X (x_dr DX7_goesBy 36 rfl) 2 rfl rfl ?_
    refine r_aload_n X (x_dr DX7_goesBy 37 rfl) 0 rfl rfl ?_
    refine gf_7_134 X rfl (x_dr DX7_goesBy 38 rfl) ?_
    refine r_icmp_ge X 131 (x_dr DX7_goesBy 39 rfl) (by decide) (fun c16 => ?_) (fun c16 => ?_)
    · replace h := h.1 c16
      refine r_norm X [0, 1] ([(0, .ref (ad 13 0 0)), (1, .int a1)]) rfl ?_
      exact kk  _ h
    · replace h := h.2 c16
      refine r_aload_n X (x_dr DX7_goesBy 40 rfl) 0 rfl rfl ?_
      refine gf_7_64 X rfl (x_dr DX7_goesBy 41 rfl) ?_
      refine r_bipush (v := 8) X (x_dr DX7_goesBy 42 rfl) (by decide) ?_
      refine r_iload_n X (x_dr DX7_goesBy 43 rfl) 1 rfl rfl ?_
      refine r_imul X (x_dr DX7_goesBy 44 rfl) ?_
      refine r_iload_n X (x_dr DX7_goesBy 45 rfl) 2 rfl rfl ?_
      refine r_iadd X (x_dr DX7_goesBy 46 rfl) ?_
      refine r_aload_n X (x_dr DX7_goesBy 47 rfl) 0 rfl rfl ?_
      refine gf_7_49 X rfl (x_dr DX7_goesBy 48 rfl) ?_
      refine r_iload_n X (x_dr DX7_goesBy 49 rfl) 2 rfl rfl ?_
      obtain ⟨b17, h⟩ := h
      refine r_iald X rfl rfl b17 (x_dr DX7_goesBy 50 rfl) ?_
      obtain ⟨b18, h⟩ := h
      refine r_iast X rfl rfl b18 (x_dr DX7_goesBy 51 rfl) ?_
      refine r_nmS (fun s19 es19 => ?_)
      replace h := h s19 es19
      refine r_aload_n X (x_dr DX7_goesBy 52 rfl) 0 rfl rfl ?_
      refine gf_7_67 X rfl (x_dr DX7_goesBy 53 rfl) ?_
      refine r_bipush (v := 8) X (x_dr DX7_goesBy 54 rfl) (by decide) ?_
      refine r_iload_n X (x_dr DX7_goesBy 55 rfl) 1 rfl rfl ?_
      refine r_imul X (x_dr DX7_goesBy 56 rfl) ?_
      refine r_iload_n X (x_dr DX7_goesBy 57 rfl) 2 rfl rfl ?_
      refine r_iadd X (x_dr DX7_goesBy 58 rfl) ?_
      refine r_aload_n X (x_dr DX7_goesBy 59 rfl) 0 rfl rfl ?_
      refine gf_7_52 X rfl (x_dr DX7_goesBy 60 rfl) ?_
      refine r_iload_n X (x_dr DX7_goesBy 61 rfl) 2 rfl rfl ?_
      obtain ⟨b20, h⟩ := h
      refine r_iald X rfl rfl b20 (x_dr DX7_goesBy 62 rfl) ?_
      obtain ⟨b21, h⟩ := h
      refine r_iast X rfl rfl b21 (x_dr DX7_goesBy 63 rfl) ?_
      refine r_nmS (fun s22 es22 => ?_)
      replace h := h s22 es22
      refine r_aload_n X (x_dr DX7_goesBy 64 rfl) 0 rfl rfl ?_
      refine gf_7_70 X rfl (x_dr DX7_goesBy 65 rfl) ?_
      refine r_bipush (v := 8) X (x_dr DX7_goesBy 66 rfl) (by decide) ?_
      refine r_iload_n X (x_dr DX7_goesBy 67 rfl) 1 rfl rfl ?_
      refine r_imul X (x_dr DX7_goesBy 68 rfl) ?_
      refine r_iload_n X (x_dr DX7_goesBy 69 rfl) 2 rfl rfl ?_
      refine r_iadd X (x_dr DX7_goesBy 70 rfl) ?_
      refine r_aload_n X (x_dr DX7_goesBy 71 rfl) 0 rfl rfl ?_
      refine gf_7_58 X rfl (x_dr DX7_goesBy 72 rfl) ?_
      refine r_iload_n X (x_dr DX7_goesBy 73 rfl) 2 rfl rfl ?_
      obtain ⟨b23, h⟩ := h
      refine r_iald X rfl rfl b23 (x_dr DX7_goesBy 74 rfl) ?_
      obtain ⟨b24, h⟩ := h
      refine r_iast X rfl rfl b24 (x_dr DX7_goesBy 75 rfl) ?_
      refine r_nmS (fun s25 es25 => ?_)
      replace h := h s25 es25
      obtain ⟨v26, ev26⟩ : ∃ z : Int32, z = a2 + 1 := ⟨_, rfl⟩
      replace h := h v26 ev26
      refine r_iinc (v := v26) X ([(2, .int v26), (0, .ref (ad 13 0 0)), (1, .int a1)]) 2 (x_dr DX7_goesBy 76 rfl) rfl (by rw [ev26]; rfl) (by decide) rfl ?_
      refine r_goto X 66 (x_dr DX7_goesBy 77 rfl) (by decide) ?_
      refine r_norm X [1, 2, 0] ([(0, .ref (ad 13 0 0)), (1, .int a1), (2, .int v26)]) rfl ?_
      exact ih _ _ h kk
set_option maxRecDepth 10000 in
theorem w7_goesBy_L133 {ad : xAd} {E : xE} (X : FX ad E cX7_goesBy 3 RX7 none 5 112)   {a1 : Int32} {K : xSt → Prop} {Q : xSt → Prop} : ∀ (n : Nat) (a2 : Int32) (σ : xSt), d7_goesBy_L133 a1 K Q n a2 σ → (∀ (s : xSt), K  s → KK ad E (qV Q) 195 ([(0, .ref (ad 13 0 0)), (1, .int a1)]) [] s) → KK ad E (qV Q) 133 ([(0, .ref (ad 13 0 0)), (1, .int a1), (2, .int a2)]) [] σ := by
  intro n
  induction n with
  | zero => intro a2 σ h kk; exact h.elim
  | succ n ih =>
    intro a2 σ h kk
    rw [d7_goesBy_L133] at h
    refine r_iload_n X (x_dr DX7_goesBy 80 rfl) 2 rfl rfl ?_
    refine r_bipush (v := 12) X (x_dr DX7_goesBy 81 rfl) (by decide) ?_
    refine r_icmp_ge X 195 (x_dr DX7_goesBy 82 rfl) (by decide) (fun c28 => ?_) (fun c28 => ?_)
    · replace h := h.1 c28
      refine r_norm X [0, 1] ([(0, .ref (ad 13 0 0)), (1, .int a1)]) rfl ?_
      exact kk  _ h
    · replace h := h.2 c28
      refine r_aload_n X (x_dr DX7_goesBy 83 rfl) 0 rfl rfl ?_
      refine gf_7_46 X rfl (x_dr DX7_goesBy 84 rfl) ?_
      refine r_iload_n X (x_dr DX7_goesBy 85 rfl) 2 rfl rfl ?_
      refine r_dup2 X (x_dr DX7_goesBy 86 rfl) rfl rfl ?_
      obtain ⟨b29, h⟩ := h
      refine r_iald X rfl rfl b29 (x_dr DX7_goesBy 87 rfl) ?_
      refine r_aload_n X (x_dr DX7_goesBy 88 rfl) 0 rfl rfl ?_
      refine r_iload_n X (x_dr DX7_goesBy 89 rfl) 1 rfl rfl ?_
      refine r_iload_n X (x_dr DX7_goesBy 90 rfl) 2 rfl rfl ?_
      refine cl7_manyAt X (k7_manyAt h) rfl ml_7_224 ⟨Nat.le_of_ble_eq_true rfl, Nat.le_of_ble_eq_true rfl⟩ (Nat.le_of_ble_eq_true rfl) (x_dr DX7_goesBy 91 rfl) (fun v31 s30 h => ?_)
      refine r_iconst (v := 2) X (x_dr DX7_goesBy 92 rfl) (by decide) ?_
      obtain ⟨j36, ej36, h⟩ := x_jn h
      have Jj36 : ∀ (v35 : Int32), j36 v35 → KK ad E (qV Q) 170 ([(0, .ref (ad 13 0 0)), (1, .int a1), (2, .int a2)]) [.int v35, .int (xA σ 13 17 a2.toNatClampNeg), .int a2, .ref (ad 13 18 0)] s30 := by
        intro v35 h
        rw [ej36] at h
        refine r_isub X (x_dr DX7_goesBy 102 rfl) ?_
        obtain ⟨b37, h⟩ := h
        refine r_iast X rfl rfl b37 (x_dr DX7_goesBy 103 rfl) ?_
        refine r_nmS (fun s38 es38 => ?_)
        replace h := h s38 es38
        refine r_aload_n X (x_dr DX7_goesBy 104 rfl) 0 rfl rfl ?_
        refine gf_7_61 X rfl (x_dr DX7_goesBy 105 rfl) ?_
        refine r_bipush (v := 12) X (x_dr DX7_goesBy 106 rfl) (by decide) ?_
        refine r_iload_n X (x_dr DX7_goesBy 107 rfl) 1 rfl rfl ?_
        refine r_imul X (x_dr DX7_goesBy 108 rfl) ?_
        refine r_iload_n X (x_dr DX7_goesBy 109 rfl) 2 rfl rfl ?_
        refine r_iadd X (x_dr DX7_goesBy 110 rfl) ?_
        refine r_aload_n X (x_dr DX7_goesBy 111 rfl) 0 rfl rfl ?_
        refine gf_7_46 X rfl (x_dr DX7_goesBy 112 rfl) ?_
        refine r_iload_n X (x_dr DX7_goesBy 113 rfl) 2 rfl rfl ?_
        obtain ⟨b39, h⟩ := h
        refine r_iald X rfl rfl b39 (x_dr DX7_goesBy 114 rfl) ?_
        obtain ⟨b40, h⟩ := h
        refine r_iast X rfl rfl b40 (x_dr DX7_goesBy 115 rfl) ?_
        refine r_nmS (fun s41 es41 => ?_)
        replace h := h s41 es41
        obtain ⟨v42, ev42⟩ : ∃ z : Int32, z = a2 + 1 := ⟨_, rfl⟩
        replace h := h v42 ev42
        refine r_iinc (v := v42) X ([(2, .int v42), (0, .ref (ad 13 0 0)), (1, .int a1)]) 2 (x_dr DX7_goesBy 116 rfl) rfl (by rw [ev42]; rfl) (by decide) rfl ?_
        refine r_goto X 133 (x_dr DX7_goesBy 117 rfl) (by decide) ?_
        refine r_norm X [1, 2, 0] ([(0, .ref (ad 13 0 0)), (1, .int a1), (2, .int v42)]) rfl ?_
        exact ih _ _ h kk
      refine r_icmp_le X 169 (x_dr DX7_goesBy 93 rfl) (by decide) (fun c43 => ?_) (fun c43 => ?_)
      · replace h := h.1 c43
        refine r_iconst (v := 0) X (x_dr DX7_goesBy 101 rfl) (by decide) ?_
        refine r_norm X [0, 1, 2] ([(0, .ref (ad 13 0 0)), (1, .int a1), (2, .int a2)]) rfl ?_
        exact Jj36 _ h
      · replace h := h.2 c43
        refine r_aload_n X (x_dr DX7_goesBy 94 rfl) 0 rfl rfl ?_
        refine gf_7_46 X rfl (x_dr DX7_goesBy 95 rfl) ?_
        refine r_iload_n X (x_dr DX7_goesBy 96 rfl) 2 rfl rfl ?_
        obtain ⟨b44, h⟩ := h
        refine r_iald X rfl rfl b44 (x_dr DX7_goesBy 97 rfl) ?_
        refine r_if_le X 169 (x_dr DX7_goesBy 98 rfl) (by decide) (fun c45 => ?_) (fun c45 => ?_)
        · replace h := h.1 c45
          refine r_iconst (v := 0) X (x_dr DX7_goesBy 101 rfl) (by decide) ?_
          refine r_norm X [0, 1, 2] ([(0, .ref (ad 13 0 0)), (1, .int a1), (2, .int a2)]) rfl ?_
          exact Jj36 _ h
        · replace h := h.2 c45
          refine r_iconst (v := 1) X (x_dr DX7_goesBy 99 rfl) (by decide) ?_
          refine r_goto X 170 (x_dr DX7_goesBy 100 rfl) (by decide) ?_
          refine r_norm X [0, 1, 2] ([(0, .ref (ad 13 0 0)), (1, .int a1), (2, .int a2)]) rfl ?_
          exact Jj36 _ h
set_option maxRecDepth 10000 in
theorem k7_goesBy {ad : xAd} {G : xG} {l : Launch} {a1 : Int32} {σ : xSt} {Q : xSt → Prop}  (h : d7_goesBy a1 σ Q) : MC ad G l yX7_goesBy cX7_goesBy 3 none 5 112 [.ref (ad 13 0 0), .int a1] σ (qV Q) := by
  unfold d7_goesBy at h
  refine x_MC [(0, .ref (ad 13 0 0)), (1, .int a1)] (by decide +kernel) rfl (Nat.le_of_ble_eq_true rfl) ?_
  intro E hG hl X
  replace X : FX ad E cX7_goesBy 3 RX7 none 5 112 := X
  refine r_iconst (v := 0) X (x_dr DX7_goesBy 0 rfl) (by decide) ?_
  refine r_istore_n X ([(2, .int 0), (0, .ref (ad 13 0 0)), (1, .int a1)]) (x_dr DX7_goesBy 1 rfl) rfl (by decide) rfl ?_
  refine r_norm X [1, 2, 0] ([(0, .ref (ad 13 0 0)), (1, .int a1), (2, .int 0)]) rfl ?_
  refine w7_goesBy_L2 X  _ _ _ h (fun s11 h => ?_)
  refine r_iconst (v := 0) X (x_dr DX7_goesBy 22 rfl) (by decide) ?_
  refine r_istore_n X ([(2, .int 0), (0, .ref (ad 13 0 0)), (1, .int a1)]) (x_dr DX7_goesBy 23 rfl) rfl (by decide) rfl ?_
  refine r_norm X [1, 2, 0] ([(0, .ref (ad 13 0 0)), (1, .int a1), (2, .int 0)]) rfl ?_
  refine w7_goesBy_L44 X  _ _ _ h (fun s15 h => ?_)
  refine r_iconst (v := 0) X (x_dr DX7_goesBy 34 rfl) (by decide) ?_
  refine r_istore_n X ([(2, .int 0), (0, .ref (ad 13 0 0)), (1, .int a1)]) (x_dr DX7_goesBy 35 rfl) rfl (by decide) rfl ?_
  refine r_norm X [1, 2, 0] ([(0, .ref (ad 13 0 0)), (1, .int a1), (2, .int 0)]) rfl ?_
  refine w7_goesBy_L66 X  _ _ _ h (fun s27 h => ?_)
  refine r_iconst (v := 0) X (x_dr DX7_goesBy 78 rfl) (by decide) ?_
  refine r_istore_n X ([(2, .int 0), (0, .ref (ad 13 0 0)), (1, .int a1)]) (x_dr DX7_goesBy 79 rfl) rfl (by decide) rfl ?_
  refine r_norm X [1, 2, 0] ([(0, .ref (ad 13 0 0)), (1, .int a1), (2, .int 0)]) rfl ?_
  refine w7_goesBy_L133 X  _ _ _ h (fun s46 h => ?_)
  refine r_aload_n X (x_dr DX7_goesBy 118 rfl) 0 rfl rfl ?_
  refine r_iload_n X (x_dr DX7_goesBy 119 rfl) 1 rfl rfl ?_
  refine cl7_divides X (k7_divides h) rfl ml_7_227 ⟨Nat.le_of_ble_eq_true rfl, Nat.le_of_ble_eq_true rfl⟩ (Nat.le_of_ble_eq_true rfl) (x_dr DX7_goesBy 120 rfl) (fun s47 h => ?_)
  exact r_vret X rfl (x_dr DX7_goesBy 121 rfl) ⟨rfl, h⟩
set_option maxRecDepth 10000 in
theorem w7_runs_L2 {ad : xAd} {E : xE} (X : FX ad E cX7_runs 2 RX7 none 6 134)   {K : xSt → Prop} {Q : xSt → Prop} : ∀ (n : Nat) (a1 : Int32) (σ : xSt), d7_runs_L2 K Q n a1 σ → (∀ (s : xSt), K  s → KK ad E (qV Q) 26 ([(0, .ref (ad 13 0 0))]) [] s) → KK ad E (qV Q) 2 ([(0, .ref (ad 13 0 0)), (1, .int a1)]) [] σ := by
  intro n
  induction n with
  | zero => intro a1 σ h kk; exact h.elim
  | succ n ih =>
    intro a1 σ h kk
    rw [d7_runs_L2] at h
    refine r_iload_n X (x_dr DX7_runs 2 rfl) 1 rfl rfl ?_
    refine r_bipush (v := 12) X (x_dr DX7_runs 3 rfl) (by decide) ?_
    refine r_icmp_ge X 26 (x_dr DX7_runs 4 rfl) (by decide) (fun c1 => ?_) (fun c1 => ?_)
    · replace h := h.1 c1
      refine r_norm X [0] ([(0, .ref (ad 13 0 0))]) rfl ?_
      exact kk  _ h
    · replace h := h.2 c1
      refine r_aload_n X (x_dr DX7_runs 5 rfl) 0 rfl rfl ?_
      refine gf_7_46 X rfl (x_dr DX7_runs 6 rfl) ?_
      refine r_iload_n X (x_dr DX7_runs 7 rfl) 1 rfl rfl ?_
      refine r_aload_n X (x_dr DX7_runs 8 rfl) 0 rfl rfl ?_
      refine gf_7_16 X rfl (x_dr DX7_runs 9 rfl) ?_
      refine r_iload_n X (x_dr DX7_runs 10 rfl) 1 rfl rfl ?_
      obtain ⟨b2, h⟩ := h
      refine r_iald X rfl rfl b2 (x_dr DX7_runs 11 rfl) ?_
      obtain ⟨b3, h⟩ := h
      refine r_iast X rfl rfl b3 (x_dr DX7_runs 12 rfl) ?_
      refine r_nmS (fun s4 es4 => ?_)
      replace h := h s4 es4
      obtain ⟨v5, ev5⟩ : ∃ z : Int32, z = a1 + 1 := ⟨_, rfl⟩
      replace h := h v5 ev5
      refine r_iinc (v := v5) X ([(1, .int v5), (0, .ref (ad 13 0 0))]) 1 (x_dr DX7_runs 13 rfl) rfl (by rw [ev5]; rfl) (by decide) rfl ?_
      refine r_goto X 2 (x_dr DX7_runs 14 rfl) (by decide) ?_
      refine r_norm X [1, 0] ([(0, .ref (ad 13 0 0)), (1, .int v5)]) rfl ?_
      exact ih _ _ h kk
set_option maxRecDepth 10000 in
theorem w7_runs_L28 {ad : xAd} {E : xE} (X : FX ad E cX7_runs 2 RX7 none 6 134)   {K : xSt → Prop} {Q : xSt → Prop} : ∀ (n : Nat) (a1 : Int32) (σ : xSt), d7_runs_L28 K Q n a1 σ → (∀ (s : xSt), K  s → KK ad E (qV Q) 80 ([(0, .ref (ad 13 0 0))]) [] s) → KK ad E (qV Q) 28 ([(0, .ref (ad 13 0 0)), (1, .int a1)]) [] σ := by
  intro n
  induction n with
  | zero => intro a1 σ h kk; exact h.elim
  | succ n ih =>
    intro a1 σ h kk
    rw [d7_runs_L28] at h
    refine r_iload_n X (x_dr DX7_runs 17 rfl) 1 rfl rfl ?_
    refine r_aload_n X (x_dr DX7_runs 18 rfl) 0 rfl rfl ?_
    refine gf_7_134 X rfl (x_dr DX7_runs 19 rfl) ?_
    refine r_icmp_ge X 80 (x_dr DX7_runs 20 rfl) (by decide) (fun c7 => ?_) (fun c7 => ?_)
    · replace h := h.1 c7
      refine r_norm X [0] ([(0, .ref (ad 13 0 0))]) rfl ?_
      exact kk  _ h
    · replace h := h.2 c7
      refine r_aload_n X (x_dr DX7_runs 21 rfl) 0 rfl rfl ?_
      refine gf_7_49 X rfl (x_dr DX7_runs 22 rfl) ?_
      refine r_iload_n X (x_dr DX7_runs 23 rfl) 1 rfl rfl ?_
      refine r_aload_n X (x_dr DX7_runs 24 rfl) 0 rfl rfl ?_
      refine gf_7_22 X rfl (x_dr DX7_runs 25 rfl) ?_
      refine r_iload_n X (x_dr DX7_runs 26 rfl) 1 rfl rfl ?_
      obtain ⟨b8, h⟩ := h
      refine r_iald X rfl rfl b8 (x_dr DX7_runs 27 rfl) ?_
      obtain ⟨b9, h⟩ := h
      refine r_iast X rfl rfl b9 (x_dr DX7_runs 28 rfl) ?_
      refine r_nmS (fun s10 es10 => ?_)
      replace h := h s10 es10
      refine r_aload_n X (x_dr DX7_runs 29 rfl) 0 rfl rfl ?_
      refine gf_7_52 X rfl (x_dr DX7_runs 30 rfl) ?_
      refine r_iload_n X (x_dr DX7_runs 31 rfl) 1 rfl rfl ?_
      refine r_aload_n X (x_dr DX7_runs 32 rfl) 0 rfl rfl ?_
      refine gf_7_25 X rfl (x_dr DX7_runs 33 rfl) ?_
      refine r_iload_n X (x_dr DX7_runs 34 rfl) 1 rfl rfl ?_
      obtain ⟨b11, h⟩ := h
      refine r_iald X rfl rfl b11 (x_dr DX7_runs 35 rfl) ?_
      obtain ⟨b12, h⟩ := h
      refine r_iast X rfl rfl b12 (x_dr DX7_runs 36 rfl) ?_
      refine r_nmS (fun s13 es13 => ?_)
      replace h := h s13 es13
      refine r_aload_n X (x_dr DX7_runs 37 rfl) 0 rfl rfl ?_
      refine gf_7_55 X rfl (x_dr DX7_runs 38 rfl) ?_
      refine r_iload_n X (x_dr DX7_runs 39 rfl) 1 rfl rfl ?_
      refine r_iconst (v := 0) X (x_dr DX7_runs 40 rfl) (by decide) ?_
      obtain ⟨b14, h⟩ := h
      refine r_iast X rfl rfl b14 (x_dr DX7_runs 41 rfl) ?_
      refine r_nmS (fun s15 es15 => ?_)
      replace h := h s15 es15
      refine r_aload_n X (x_dr DX7_runs 42 rfl) 0 rfl rfl ?_
      refine gf_7_58 X rfl (x_dr DX7_runs 43 rfl) ?_
      refine r_iload_n X (x_dr DX7_runs 44 rfl) 1 rfl rfl ?_
      refine r_iconst (v := 0) X (x_dr DX7_runs 45 rfl) (by decide) ?_
      obtain ⟨b16, h⟩ := h
      refine r_iast X rfl rfl b16 (x_dr DX7_runs 46 rfl) ?_
      refine r_nmS (fun s17 es17 => ?_)
      replace h := h s17 es17
      obtain ⟨v18, ev18⟩ : ∃ z : Int32, z = a1 + 1 := ⟨_, rfl⟩
      replace h := h v18 ev18
      refine r_iinc (v := v18) X ([(1, .int v18), (0, .ref (ad 13 0 0))]) 1 (x_dr DX7_runs 47 rfl) rfl (by rw [ev18]; rfl) (by decide) rfl ?_
      refine r_goto X 28 (x_dr DX7_runs 48 rfl) (by decide) ?_
      refine r_norm X [1, 0] ([(0, .ref (ad 13 0 0)), (1, .int v18)]) rfl ?_
      exact ih _ _ h kk
set_option maxRecDepth 10000 in
theorem w7_runs_L87 {ad : xAd} {E : xE} (X : FX ad E cX7_runs 2 RX7 none 6 134)   {K : xSt → Prop} {Q : xSt → Prop} : ∀ (n : Nat) (a1 : Int32) (σ : xSt), d7_runs_L87 K Q n a1 σ → (∀ (s : xSt), K  s → KK ad E (qV Q) 104 ([]) [] s) → KK ad E (qV Q) 87 ([(0, .ref (ad 13 0 0)), (1, .int a1)]) [] σ := by
  intro n
  induction n with
  | zero => intro a1 σ h kk; exact h.elim
  | succ n ih =>
    intro a1 σ h kk
    rw [d7_runs_L87] at h
    refine r_iload_n X (x_dr DX7_runs 54 rfl) 1 rfl rfl ?_
    refine r_bipush (v := 20) X (x_dr DX7_runs 55 rfl) (by decide) ?_
    refine r_icmp_ge X 104 (x_dr DX7_runs 56 rfl) (by decide) (fun c21 => ?_) (fun c21 => ?_)
    · replace h := h.1 c21
      refine r_norm X [] ([]) rfl ?_
      exact kk  _ h
    · replace h := h.2 c21
      refine r_aload_n X (x_dr DX7_runs 57 rfl) 0 rfl rfl ?_
      refine r_iload_n X (x_dr DX7_runs 58 rfl) 1 rfl rfl ?_
      refine cl7_goesBy X (k7_goesBy h) rfl ml_7_230 ⟨Nat.le_of_ble_eq_true rfl, Nat.le_of_ble_eq_true rfl⟩ (Nat.le_of_ble_eq_true rfl) (x_dr DX7_runs 59 rfl) (fun s22 h => ?_)
      obtain ⟨v23, ev23⟩ : ∃ z : Int32, z = a1 + 1 := ⟨_, rfl⟩
      replace h := h v23 ev23
      refine r_iinc (v := v23) X ([(1, .int v23), (0, .ref (ad 13 0 0))]) 1 (x_dr DX7_runs 60 rfl) rfl (by rw [ev23]; rfl) (by decide) rfl ?_
      refine r_goto X 87 (x_dr DX7_runs 61 rfl) (by decide) ?_
      refine r_norm X [1, 0] ([(0, .ref (ad 13 0 0)), (1, .int v23)]) rfl ?_
      exact ih _ _ h kk
set_option maxRecDepth 10000 in
theorem k7_runs {ad : xAd} {G : xG} {l : Launch} {σ : xSt} {Q : xSt → Prop}  (h : d7_runs σ Q) : MC ad G l yX7_runs cX7_runs 2 none 6 134 [.ref (ad 13 0 0)] σ (qV Q) := by
  unfold d7_runs at h
  refine x_MC [(0, .ref (ad 13 0 0))] (by decide +kernel) rfl (Nat.le_of_ble_eq_true rfl) ?_
  intro E hG hl X
  replace X : FX ad E cX7_runs 2 RX7 none 6 134 := X
  refine r_iconst (v := 0) X (x_dr DX7_runs 0 rfl) (by decide) ?_
  refine r_istore_n X ([(1, .int 0), (0, .ref (ad 13 0 0))]) (x_dr DX7_runs 1 rfl) rfl (by decide) rfl ?_
  refine r_norm X [1, 0] ([(0, .ref (ad 13 0 0)), (1, .int 0)]) rfl ?_
  refine w7_runs_L2 X  _ _ _ h (fun s6 h => ?_)
  refine r_iconst (v := 0) X (x_dr DX7_runs 15 rfl) (by decide) ?_
  refine r_istore_n X ([(1, .int 0), (0, .ref (ad 13 0 0))]) (x_dr DX7_runs 16 rfl) rfl (by decide) rfl ?_
  refine r_norm X [1, 0] ([(0, .ref (ad 13 0 0)), (1, .int 0)]) rfl ?_
  refine w7_runs_L28 X  _ _ _ h (fun s19 h => ?_)
  refine r_aload_n X (x_dr DX7_runs 49 rfl) 0 rfl rfl ?_
  refine r_iconst (v := 0) X (x_dr DX7_runs 50 rfl) (by decide) ?_
  refine pf_7_205 X rfl (x_dr DX7_runs 51 rfl) ?_
  refine r_nmS (fun s20 es20 => ?_)
  replace h := h s20 es20
  refine r_iconst (v := 0) X (x_dr DX7_runs 52 rfl) (by decide) ?_
  refine r_istore_n X ([(1, .int 0), (0, .ref (ad 13 0 0))]) (x_dr DX7_runs 53 rfl) rfl (by decide) rfl ?_
  refine r_norm X [1, 0] ([(0, .ref (ad 13 0 0)), (1, .int 0)]) rfl ?_
  refine w7_runs_L87 X  _ _ _ h (fun s24 h => ?_)
  exact r_vret X rfl (x_dr DX7_runs 62 rfl) ⟨rfl, h⟩
set_option maxRecDepth 10000 in
theorem k7_runsTold {ad : xAd} {G : xG} {l : Launch} {σ : xSt} {Q : xSt → Prop}  (h : d7_runsTold σ Q) : MC ad G l yX7_runsTold cX7_runsTold 1 none 7 155 [.ref (ad 13 0 0)] σ (qV Q) := by
  unfold d7_runsTold at h
  refine x_MC [(0, .ref (ad 13 0 0))] (by decide +kernel) rfl (Nat.le_of_ble_eq_true rfl) ?_
  intro E hG hl X
  replace X : FX ad E cX7_runsTold 1 RX7 none 7 155 := X
  refine r_aload_n X (x_dr DX7_runsTold 0 rfl) 0 rfl rfl ?_
  refine cl7_asTold X (k7_asTold h) rfl ml_7_233 ⟨Nat.le_of_ble_eq_true rfl, Nat.le_of_ble_eq_true rfl⟩ (Nat.le_of_ble_eq_true rfl) (x_dr DX7_runsTold 1 rfl) (fun s1 h => ?_)
  refine r_aload_n X (x_dr DX7_runsTold 2 rfl) 0 rfl rfl ?_
  refine cl7_runs X (k7_runs h) rfl ml_7_236 ⟨Nat.le_of_ble_eq_true rfl, Nat.le_of_ble_eq_true rfl⟩ (Nat.le_of_ble_eq_true rfl) (x_dr DX7_runsTold 3 rfl) (fun s2 h => ?_)
  exact r_vret X rfl (x_dr DX7_runsTold 4 rfl) ⟨rfl, h⟩
set_option maxRecDepth 10000 in
theorem k7_dampOf {ad : xAd} {G : xG} {l : Launch} {a1 : Int32} {a2 : Int32} {a3 : Int32} {σ : xSt} {Q : Int32 → xSt → Prop}  (h : d7_dampOf a1 a2 a3 σ Q) : MC ad G l yX7_dampOf cX7_dampOf 4 (some .int) 8 175 [.ref (ad 13 0 0), .int a1, .int a2, .int a3] σ (qI Q) := by
  unfold d7_dampOf at h
  refine x_MC [(0, .ref (ad 13 0 0)), (1, .int a1), (2, .int a2), (3, .int a3)] (by decide +kernel) rfl (Nat.le_of_ble_eq_true rfl) ?_
  intro E hG hl X
  replace X : FX ad E cX7_dampOf 4 RX7 (some .int) 8 175 := X
  refine r_aload_n X (x_dr DX7_dampOf 0 rfl) 0 rfl rfl ?_
  refine cl7_runsTold X (k7_runsTold h) rfl ml_7_239 ⟨Nat.le_of_ble_eq_true rfl, Nat.le_of_ble_eq_true rfl⟩ (Nat.le_of_ble_eq_true rfl) (x_dr DX7_dampOf 1 rfl) (fun s1 h => ?_)
  refine r_iload_n X (x_dr DX7_dampOf 2 rfl) 3 rfl rfl ?_
  refine r_if_ne X 22 (x_dr DX7_dampOf 3 rfl) (by decide) (fun c2 => ?_) (fun c2 => ?_)
  · replace h := h.1 c2
    refine r_aload_n X (x_dr DX7_dampOf 13 rfl) 0 rfl rfl ?_
    refine r_iload_n X (x_dr DX7_dampOf 14 rfl) 1 rfl rfl ?_
    refine r_iload_n X (x_dr DX7_dampOf 15 rfl) 2 rfl rfl ?_
    refine cl7_manyAt X (k7_manyAt h) rfl ml_7_224 ⟨Nat.le_of_ble_eq_true rfl, Nat.le_of_ble_eq_true rfl⟩ (Nat.le_of_ble_eq_true rfl) (x_dr DX7_dampOf 16 rfl) (fun v4 s3 h => ?_)
    exact r_iret X rfl (x_dr DX7_dampOf 17 rfl) ⟨_, rfl, h⟩
  · replace h := h.2 c2
    refine r_aload_n X (x_dr DX7_dampOf 4 rfl) 0 rfl rfl ?_
    refine gf_7_61 X rfl (x_dr DX7_dampOf 5 rfl) ?_
    refine r_bipush (v := 12) X (x_dr DX7_dampOf 6 rfl) (by decide) ?_
    refine r_iload_n X (x_dr DX7_dampOf 7 rfl) 1 rfl rfl ?_
    refine r_imul X (x_dr DX7_dampOf 8 rfl) ?_
    refine r_iload_n X (x_dr DX7_dampOf 9 rfl) 2 rfl rfl ?_
    refine r_iadd X (x_dr DX7_dampOf 10 rfl) ?_
    obtain ⟨b5, h⟩ := h
    refine r_iald X rfl rfl b5 (x_dr DX7_dampOf 11 rfl) ?_
    refine r_goto X 28 (x_dr DX7_dampOf 12 rfl) (by decide) ?_
    exact r_iret X rfl (x_dr DX7_dampOf 17 rfl) ⟨_, rfl, h⟩
set_option maxRecDepth 10000 in
theorem k7_damp {ad : xAd} {G : xG} {l : Launch} {a1 : Int32} {a2 : Int32} {a3 : Int32} {σ : xSt} {Q : Int32 → xSt → Prop}  (h : d7_damp a1 a2 a3 σ Q) : MC ad G l yX7_damp cX7_damp 4 (some .int) 9 198 [.ref (ad 13 0 0), .int a1, .int a2, .int a3] σ (qI Q) := by
  unfold d7_damp at h
  refine x_MC [(0, .ref (ad 13 0 0)), (1, .int a1), (2, .int a2), (3, .int a3)] (by decide +kernel) rfl (Nat.le_of_ble_eq_true rfl) ?_
  intro E hG hl X
  replace X : FX ad E cX7_damp 4 RX7 (some .int) 9 198 := X
  refine r_iload_n X (x_dr DX7_damp 0 rfl) 1 rfl rfl ?_
  refine cl7_isHour X (k7_isHour h) ml_7_166 ⟨Nat.le_of_ble_eq_true rfl, Nat.le_of_ble_eq_true rfl⟩ (Nat.le_of_ble_eq_true rfl) (x_dr DX7_damp 1 rfl) (fun v2 s1 zv2 h => ?_)
  refine r_if_eq X 33 (x_dr DX7_damp 2 rfl) (by decide) (fun c3 => ?_) (fun c3 => ?_)
  · replace h := h.1 c3
    refine r_bipush (v := (-2)) X (x_dr DX7_damp 17 rfl) (by decide) ?_
    exact r_iret X rfl (x_dr DX7_damp 18 rfl) ⟨_, rfl, h⟩
  · replace h := h.2 c3
    refine r_iload_n X (x_dr DX7_damp 3 rfl) 2 rfl rfl ?_
    refine cl7_isPlace X (k7_isPlace h) ml_7_154 ⟨Nat.le_of_ble_eq_true rfl, Nat.le_of_ble_eq_true rfl⟩ (Nat.le_of_ble_eq_true rfl) (x_dr DX7_damp 4 rfl) (fun v5 s4 zv5 h => ?_)
    refine r_if_eq X 33 (x_dr DX7_damp 5 rfl) (by decide) (fun c6 => ?_) (fun c6 => ?_)
    · replace h := h.1 c6
      refine r_bipush (v := (-2)) X (x_dr DX7_damp 17 rfl) (by decide) ?_
      exact r_iret X rfl (x_dr DX7_damp 18 rfl) ⟨_, rfl, h⟩
    · replace h := h.2 c6
      refine r_iload_n X (x_dr DX7_damp 6 rfl) 3 rfl rfl ?_
      refine r_iconst (v := 0) X (x_dr DX7_damp 7 rfl) (by decide) ?_
      refine r_iconst (v := 1) X (x_dr DX7_damp 8 rfl) (by decide) ?_
      refine cl7_in X (k7_in h) ml_7_115 ⟨Nat.le_of_ble_eq_true rfl, Nat.le_of_ble_eq_true rfl⟩ (Nat.le_of_ble_eq_true rfl) (x_dr DX7_damp 9 rfl) (fun v8 s7 zv8 h => ?_)
      refine r_if_eq X 33 (x_dr DX7_damp 10 rfl) (by decide) (fun c9 => ?_) (fun c9 => ?_)
      · replace h := h.1 c9
        refine r_bipush (v := (-2)) X (x_dr DX7_damp 17 rfl) (by decide) ?_
        exact r_iret X rfl (x_dr DX7_damp 18 rfl) ⟨_, rfl, h⟩
      · replace h := h.2 c9
        refine r_aload_n X (x_dr DX7_damp 11 rfl) 0 rfl rfl ?_
        refine r_iload_n X (x_dr DX7_damp 12 rfl) 1 rfl rfl ?_
        refine r_iload_n X (x_dr DX7_damp 13 rfl) 2 rfl rfl ?_
        refine r_iload_n X (x_dr DX7_damp 14 rfl) 3 rfl rfl ?_
        refine cl7_dampOf X (k7_dampOf h) rfl ml_7_242 ⟨Nat.le_of_ble_eq_true rfl, Nat.le_of_ble_eq_true rfl⟩ (Nat.le_of_ble_eq_true rfl) (x_dr DX7_damp 15 rfl) (fun v11 s10 h => ?_)
        refine r_goto X 35 (x_dr DX7_damp 16 rfl) (by decide) ?_
        exact r_iret X rfl (x_dr DX7_damp 18 rfl) ⟨_, rfl, h⟩
set_option maxRecDepth 10000 in
theorem k7_atOf {ad : xAd} {G : xG} {l : Launch} {a1 : Int32} {a2 : Int32} {a3 : Int32} {σ : xSt} {Q : Int32 → xSt → Prop}  (h : d7_atOf a1 a2 a3 σ Q) : MC ad G l yX7_atOf cX7_atOf 5 (some .int) 8 175 [.ref (ad 13 0 0), .int a1, .int a2, .int a3] σ (qI Q) := by
  unfold d7_atOf at h
  refine x_MC [(0, .ref (ad 13 0 0)), (1, .int a1), (2, .int a2), (3, .int a3)] (by decide +kernel) rfl (Nat.le_of_ble_eq_true rfl) ?_
  intro E hG hl X
  replace X : FX ad E cX7_atOf 5 RX7 (some .int) 8 175 := X
  refine r_aload_n X (x_dr DX7_atOf 0 rfl) 0 rfl rfl ?_
  refine cl7_runsTold X (k7_runsTold h) rfl ml_7_239 ⟨Nat.le_of_ble_eq_true rfl, Nat.le_of_ble_eq_true rfl⟩ (Nat.le_of_ble_eq_true rfl) (x_dr DX7_atOf 1 rfl) (fun s1 h => ?_)
  refine r_bipush (v := 8) X (x_dr DX7_atOf 2 rfl) (by decide) ?_
  refine r_iload_n X (x_dr DX7_atOf 3 rfl) 1 rfl rfl ?_
  refine r_imul X (x_dr DX7_atOf 4 rfl) ?_
  refine r_iload_n X (x_dr DX7_atOf 5 rfl) 2 rfl rfl ?_
  refine r_iadd X (x_dr DX7_atOf 6 rfl) ?_
  refine r_nmI (fun v2 ev2 => ?_)
  replace h := h v2 ev2
  refine r_istore X ([(4, .int v2), (0, .ref (ad 13 0 0)), (1, .int a1), (2, .int a2), (3, .int a3)]) (x_dr DX7_atOf 7 rfl) (by decide) rfl ?_
  refine r_iload_n X (x_dr DX7_atOf 8 rfl) 4 rfl rfl ?_
  refine r_if_ne X 26 (x_dr DX7_atOf 9 rfl) (by decide) (fun c3 => ?_) (fun c3 => ?_)
  · replace h := h.1 c3
    refine r_iload_n X (x_dr DX7_atOf 15 rfl) 4 rfl rfl ?_
    refine r_iconst (v := 1) X (x_dr DX7_atOf 16 rfl) (by decide) ?_
    refine r_icmp_ne X 41 (x_dr DX7_atOf 17 rfl) (by decide) (fun c4 => ?_) (fun c4 => ?_)
    · replace h := h.1 c4
      refine r_iload_n X (x_dr DX7_atOf 23 rfl) 4 rfl rfl ?_
      refine r_iconst (v := 2) X (x_dr DX7_atOf 24 rfl) (by decide) ?_
      refine r_icmp_ne X 67 (x_dr DX7_atOf 25 rfl) (by decide) (fun c5 => ?_) (fun c5 => ?_)
      · replace h := h.1 c5
        refine r_aload_n X (x_dr DX7_atOf 37 rfl) 1 rfl rfl ?_
        refine gf_7_70 X rfl (x_dr DX7_atOf 38 rfl) ?_
        refine r_iload X (x_dr DX7_atOf 39 rfl) 0 rfl ?_
        obtain ⟨b6, h⟩ := h
        refine r_iald X rfl rfl b6 (x_dr DX7_atOf 40 rfl) ?_
        exact r_iret X rfl (x_dr DX7_atOf 41 rfl) ⟨_, rfl, h⟩
      · replace h := h.2 c5
        refine r_aload_n X (x_dr DX7_atOf 26 rfl) 1 rfl rfl ?_
        refine gf_7_73 X rfl (x_dr DX7_atOf 27 rfl) ?_
        refine r_iload_n X (x_dr DX7_atOf 28 rfl) 2 rfl rfl ?_
        obtain ⟨b7, h⟩ := h
        refine r_iald X rfl rfl b7 (x_dr DX7_atOf 29 rfl) ?_
        refine r_iload_n X (x_dr DX7_atOf 30 rfl) 3 rfl rfl ?_
        refine cl7_isIn X (k7_isIn h) ml_7_215 ⟨Nat.le_of_ble_eq_true rfl, Nat.le_of_ble_eq_true rfl⟩ (Nat.le_of_ble_eq_true rfl) (x_dr DX7_atOf 31 rfl) (fun v9 s8 zv9 h => ?_)
        refine r_if_eq X 63 (x_dr DX7_atOf 32 rfl) (by decide) (fun c10 => ?_) (fun c10 => ?_)
        · replace h := h.1 c10
          refine r_iconst (v := 0) X (x_dr DX7_atOf 35 rfl) (by decide) ?_
          refine r_goto X 74 (x_dr DX7_atOf 36 rfl) (by decide) ?_
          exact r_iret X rfl (x_dr DX7_atOf 41 rfl) ⟨_, rfl, h⟩
        · replace h := h.2 c10
          refine r_iconst (v := 1) X (x_dr DX7_atOf 33 rfl) (by decide) ?_
          refine r_goto X 74 (x_dr DX7_atOf 34 rfl) (by decide) ?_
          exact r_iret X rfl (x_dr DX7_atOf 41 rfl) ⟨_, rfl, h⟩
    · replace h := h.2 c4
      refine r_aload_n X (x_dr DX7_atOf 18 rfl) 1 rfl rfl ?_
      refine gf_7_67 X rfl (x_dr DX7_atOf 19 rfl) ?_
      refine r_iload X (x_dr DX7_atOf 20 rfl) 0 rfl ?_
      obtain ⟨b11, h⟩ := h
      refine r_iald X rfl rfl b11 (x_dr DX7_atOf 21 rfl) ?_
      refine r_goto X 74 (x_dr DX7_atOf 22 rfl) (by decide) ?_
      exact r_iret X rfl (x_dr DX7_atOf 41 rfl) ⟨_, rfl, h⟩
  · replace h := h.2 c3
    refine r_aload_n X (x_dr DX7_atOf 10 rfl) 1 rfl rfl ?_
    refine gf_7_64 X rfl (x_dr DX7_atOf 11 rfl) ?_
    refine r_iload X (x_dr DX7_atOf 12 rfl) 0 rfl ?_
    obtain ⟨b12, h⟩ := h
    refine r_iald X rfl rfl b12 (x_dr DX7_atOf 13 rfl) ?_
    refine r_goto X 74 (x_dr DX7_atOf 14 rfl) (by decide) ?_
    exact r_iret X rfl (x_dr DX7_atOf 41 rfl) ⟨_, rfl, h⟩
set_option maxRecDepth 10000 in
theorem k7_at {ad : xAd} {G : xG} {l : Launch} {a1 : Int32} {a2 : Int32} {a3 : Int32} {σ : xSt} {Q : Int32 → xSt → Prop}  (h : d7_at a1 a2 a3 σ Q) : MC ad G l yX7_at cX7_at 4 (some .int) 9 199 [.ref (ad 13 0 0), .int a1, .int a2, .int a3] σ (qI Q) := by
  unfold d7_at at h
  refine x_MC [(0, .ref (ad 13 0 0)), (1, .int a1), (2, .int a2), (3, .int a3)] (by decide +kernel) rfl (Nat.le_of_ble_eq_true rfl) ?_
  intro E hG hl X
  replace X : FX ad E cX7_at 4 RX7 (some .int) 9 199 := X
  refine r_iload_n X (x_dr DX7_at 0 rfl) 1 rfl rfl ?_
  refine cl7_isHour X (k7_isHour h) ml_7_166 ⟨Nat.le_of_ble_eq_true rfl, Nat.le_of_ble_eq_true rfl⟩ (Nat.le_of_ble_eq_true rfl) (x_dr DX7_at 1 rfl) (fun v2 s1 zv2 h => ?_)
  refine r_if_eq X 34 (x_dr DX7_at 2 rfl) (by decide) (fun c3 => ?_) (fun c3 => ?_)
  · replace h := h.1 c3
    refine r_bipush (v := (-2)) X (x_dr DX7_at 18 rfl) (by decide) ?_
    exact r_iret X rfl (x_dr DX7_at 19 rfl) ⟨_, rfl, h⟩
  · replace h := h.2 c3
    refine r_aload_n X (x_dr DX7_at 3 rfl) 0 rfl rfl ?_
    refine r_iload_n X (x_dr DX7_at 4 rfl) 2 rfl rfl ?_
    refine cl7_isMember X (k7_isMember h) rfl ml_7_160 ⟨Nat.le_of_ble_eq_true rfl, Nat.le_of_ble_eq_true rfl⟩ (Nat.le_of_ble_eq_true rfl) (x_dr DX7_at 5 rfl) (fun v5 s4 zv5 h => ?_)
    refine r_if_eq X 34 (x_dr DX7_at 6 rfl) (by decide) (fun c6 => ?_) (fun c6 => ?_)
    · replace h := h.1 c6
      refine r_bipush (v := (-2)) X (x_dr DX7_at 18 rfl) (by decide) ?_
      exact r_iret X rfl (x_dr DX7_at 19 rfl) ⟨_, rfl, h⟩
    · replace h := h.2 c6
      refine r_iload_n X (x_dr DX7_at 7 rfl) 3 rfl rfl ?_
      refine r_iconst (v := 0) X (x_dr DX7_at 8 rfl) (by decide) ?_
      refine r_iconst (v := 3) X (x_dr DX7_at 9 rfl) (by decide) ?_
      refine cl7_in X (k7_in h) ml_7_115 ⟨Nat.le_of_ble_eq_true rfl, Nat.le_of_ble_eq_true rfl⟩ (Nat.le_of_ble_eq_true rfl) (x_dr DX7_at 10 rfl) (fun v8 s7 zv8 h => ?_)
      refine r_if_eq X 34 (x_dr DX7_at 11 rfl) (by decide) (fun c9 => ?_) (fun c9 => ?_)
      · replace h := h.1 c9
        refine r_bipush (v := (-2)) X (x_dr DX7_at 18 rfl) (by decide) ?_
        exact r_iret X rfl (x_dr DX7_at 19 rfl) ⟨_, rfl, h⟩
      · replace h := h.2 c9
        refine r_aload_n X (x_dr DX7_at 12 rfl) 0 rfl rfl ?_
        refine r_iload_n X (x_dr DX7_at 13 rfl) 1 rfl rfl ?_
        refine r_iload_n X (x_dr DX7_at 14 rfl) 2 rfl rfl ?_
        refine r_iload_n X (x_dr DX7_at 15 rfl) 3 rfl rfl ?_
        refine cl7_atOf X (k7_atOf h) rfl ml_7_245 ⟨Nat.le_of_ble_eq_true rfl, Nat.le_of_ble_eq_true rfl⟩ (Nat.le_of_ble_eq_true rfl) (x_dr DX7_at 16 rfl) (fun v11 s10 h => ?_)
        refine r_goto X 36 (x_dr DX7_at 17 rfl) (by decide) ?_
        exact r_iret X rfl (x_dr DX7_at 19 rfl) ⟨_, rfl, h⟩
set_option maxRecDepth 10000 in
theorem k7_isCarried {ad : xAd} {G : xG} {l : Launch} {a1 : Int32} {σ : xSt} {Q : Int32 → xSt → Prop}  (h : d7_isCarried a1 σ Q) : MC ad G l yX7_isCarried cX7_isCarried 2 (some .boolean) 0 0 [.ref (ad 13 0 0), .int a1] σ (qZ Q) := by
  unfold d7_isCarried at h
  refine x_MC [(0, .ref (ad 13 0 0)), (1, .int a1)] (by decide +kernel) rfl (Nat.le_of_ble_eq_true rfl) ?_
  intro E hG hl X
  replace X : FX ad E cX7_isCarried 2 RX7 (some .boolean) 0 0 := X
  refine r_aload_n X (x_dr DX7_isCarried 0 rfl) 0 rfl rfl ?_
  refine gf_7_76 X rfl (x_dr DX7_isCarried 1 rfl) ?_
  refine r_iload_n X (x_dr DX7_isCarried 2 rfl) 1 rfl rfl ?_
  obtain ⟨b1, h⟩ := h
  refine r_iald X rfl rfl b1 (x_dr DX7_isCarried 3 rfl) ?_
  refine r_aload_n X (x_dr DX7_isCarried 4 rfl) 0 rfl rfl ?_
  refine gf_7_79 X rfl (x_dr DX7_isCarried 5 rfl) ?_
  refine r_iload_n X (x_dr DX7_isCarried 6 rfl) 1 rfl rfl ?_
  obtain ⟨b2, h⟩ := h
  refine r_iald X rfl rfl b2 (x_dr DX7_isCarried 7 rfl) ?_
  refine r_icmp_le X 19 (x_dr DX7_isCarried 8 rfl) (by decide) (fun c3 => ?_) (fun c3 => ?_)
  · replace h := h.1 c3
    refine r_iconst (v := 0) X (x_dr DX7_isCarried 11 rfl) (by decide) ?_
    exact r_zret X rfl (x_dr DX7_isCarried 12 rfl) (Or.inl rfl) ⟨_, rfl, (Or.inl rfl), h⟩
  · replace h := h.2 c3
    refine r_iconst (v := 1) X (x_dr DX7_isCarried 9 rfl) (by decide) ?_
    refine r_goto X 20 (x_dr DX7_isCarried 10 rfl) (by decide) ?_
    exact r_zret X rfl (x_dr DX7_isCarried 12 rfl) (Or.inr rfl) ⟨_, rfl, (Or.inr rfl), h⟩
set_option maxRecDepth 10000 in
theorem k7_houseOf {ad : xAd} {G : xG} {l : Launch} {a1 : Int32} {a2 : Int32} {σ : xSt} {Q : Int32 → xSt → Prop}  (h : d7_houseOf a1 a2 σ Q) : MC ad G l yX7_houseOf cX7_houseOf 3 (some .int) 8 175 [.ref (ad 13 0 0), .int a1, .int a2] σ (qI Q) := by
  unfold d7_houseOf at h
  refine x_MC [(0, .ref (ad 13 0 0)), (1, .int a1), (2, .int a2)] (by decide +kernel) rfl (Nat.le_of_ble_eq_true rfl) ?_
  intro E hG hl X
  replace X : FX ad E cX7_houseOf 3 RX7 (some .int) 8 175 := X
  refine r_aload_n X (x_dr DX7_houseOf 0 rfl) 0 rfl rfl ?_
  refine cl7_runsTold X (k7_runsTold h) rfl ml_7_239 ⟨Nat.le_of_ble_eq_true rfl, Nat.le_of_ble_eq_true rfl⟩ (Nat.le_of_ble_eq_true rfl) (x_dr DX7_houseOf 1 rfl) (fun s1 h => ?_)
  refine r_iload_n X (x_dr DX7_houseOf 2 rfl) 2 rfl rfl ?_
  refine r_if_ne X 17 (x_dr DX7_houseOf 3 rfl) (by decide) (fun c2 => ?_) (fun c2 => ?_)
  · replace h := h.1 c2
    refine r_iload_n X (x_dr DX7_houseOf 9 rfl) 2 rfl rfl ?_
    refine r_iconst (v := 1) X (x_dr DX7_houseOf 10 rfl) (by decide) ?_
    refine r_icmp_ne X 31 (x_dr DX7_houseOf 11 rfl) (by decide) (fun c3 => ?_) (fun c3 => ?_)
    · replace h := h.1 c3
      refine r_aload_n X (x_dr DX7_houseOf 17 rfl) 0 rfl rfl ?_
      refine r_iload_n X (x_dr DX7_houseOf 18 rfl) 1 rfl rfl ?_
      refine cl7_isCarried X (k7_isCarried h) rfl ml_7_248 ⟨Nat.le_of_ble_eq_true rfl, Nat.le_of_ble_eq_true rfl⟩ (Nat.le_of_ble_eq_true rfl) (x_dr DX7_houseOf 19 rfl) (fun v5 s4 zv5 h => ?_)
      refine r_if_eq X 43 (x_dr DX7_houseOf 20 rfl) (by decide) (fun c6 => ?_) (fun c6 => ?_)
      · replace h := h.1 c6
        refine r_iconst (v := 0) X (x_dr DX7_houseOf 23 rfl) (by decide) ?_
        exact r_iret X rfl (x_dr DX7_houseOf 24 rfl) ⟨_, rfl, h⟩
      · replace h := h.2 c6
        refine r_iconst (v := 1) X (x_dr DX7_houseOf 21 rfl) (by decide) ?_
        refine r_goto X 44 (x_dr DX7_houseOf 22 rfl) (by decide) ?_
        exact r_iret X rfl (x_dr DX7_houseOf 24 rfl) ⟨_, rfl, h⟩
    · replace h := h.2 c3
      refine r_aload_n X (x_dr DX7_houseOf 12 rfl) 0 rfl rfl ?_
      refine gf_7_79 X rfl (x_dr DX7_houseOf 13 rfl) ?_
      refine r_iload_n X (x_dr DX7_houseOf 14 rfl) 1 rfl rfl ?_
      obtain ⟨b7, h⟩ := h
      refine r_iald X rfl rfl b7 (x_dr DX7_houseOf 15 rfl) ?_
      refine r_goto X 44 (x_dr DX7_houseOf 16 rfl) (by decide) ?_
      exact r_iret X rfl (x_dr DX7_houseOf 24 rfl) ⟨_, rfl, h⟩
  · replace h := h.2 c2
    refine r_aload_n X (x_dr DX7_houseOf 4 rfl) 0 rfl rfl ?_
    refine gf_7_76 X rfl (x_dr DX7_houseOf 5 rfl) ?_
    refine r_iload_n X (x_dr DX7_houseOf 6 rfl) 1 rfl rfl ?_
    obtain ⟨b8, h⟩ := h
    refine r_iald X rfl rfl b8 (x_dr DX7_houseOf 7 rfl) ?_
    refine r_goto X 44 (x_dr DX7_houseOf 8 rfl) (by decide) ?_
    exact r_iret X rfl (x_dr DX7_houseOf 24 rfl) ⟨_, rfl, h⟩
set_option maxRecDepth 10000 in
theorem k7_house {ad : xAd} {G : xG} {l : Launch} {a1 : Int32} {a2 : Int32} {σ : xSt} {Q : Int32 → xSt → Prop}  (h : d7_house a1 a2 σ Q) : MC ad G l yX7_house cX7_house 3 (some .int) 9 197 [.ref (ad 13 0 0), .int a1, .int a2] σ (qI Q) := by
  unfold d7_house at h
  refine x_MC [(0, .ref (ad 13 0 0)), (1, .int a1), (2, .int a2)] (by decide +kernel) rfl (Nat.le_of_ble_eq_true rfl) ?_
  intro E hG hl X
  replace X : FX ad E cX7_house 3 RX7 (some .int) 9 197 := X
  refine r_iload_n X (x_dr DX7_house 0 rfl) 1 rfl rfl ?_
  refine cl7_isHour X (k7_isHour h) ml_7_166 ⟨Nat.le_of_ble_eq_true rfl, Nat.le_of_ble_eq_true rfl⟩ (Nat.le_of_ble_eq_true rfl) (x_dr DX7_house 1 rfl) (fun v2 s1 zv2 h => ?_)
  refine r_if_eq X 25 (x_dr DX7_house 2 rfl) (by decide) (fun c3 => ?_) (fun c3 => ?_)
  · replace h := h.1 c3
    refine r_bipush (v := (-2)) X (x_dr DX7_house 13 rfl) (by decide) ?_
    exact r_iret X rfl (x_dr DX7_house 14 rfl) ⟨_, rfl, h⟩
  · replace h := h.2 c3
    refine r_iload_n X (x_dr DX7_house 3 rfl) 2 rfl rfl ?_
    refine r_iconst (v := 0) X (x_dr DX7_house 4 rfl) (by decide) ?_
    refine r_iconst (v := 2) X (x_dr DX7_house 5 rfl) (by decide) ?_
    refine cl7_in X (k7_in h) ml_7_115 ⟨Nat.le_of_ble_eq_true rfl, Nat.le_of_ble_eq_true rfl⟩ (Nat.le_of_ble_eq_true rfl) (x_dr DX7_house 6 rfl) (fun v5 s4 zv5 h => ?_)
    refine r_if_eq X 25 (x_dr DX7_house 7 rfl) (by decide) (fun c6 => ?_) (fun c6 => ?_)
    · replace h := h.1 c6
      refine r_bipush (v := (-2)) X (x_dr DX7_house 13 rfl) (by decide) ?_
      exact r_iret X rfl (x_dr DX7_house 14 rfl) ⟨_, rfl, h⟩
    · replace h := h.2 c6
      refine r_aload_n X (x_dr DX7_house 8 rfl) 0 rfl rfl ?_
      refine r_iload_n X (x_dr DX7_house 9 rfl) 1 rfl rfl ?_
      refine r_iload_n X (x_dr DX7_house 10 rfl) 2 rfl rfl ?_
      refine cl7_houseOf X (k7_houseOf h) rfl ml_7_251 ⟨Nat.le_of_ble_eq_true rfl, Nat.le_of_ble_eq_true rfl⟩ (Nat.le_of_ble_eq_true rfl) (x_dr DX7_house 11 rfl) (fun v8 s7 h => ?_)
      refine r_goto X 27 (x_dr DX7_house 12 rfl) (by decide) ?_
      exact r_iret X rfl (x_dr DX7_house 14 rfl) ⟨_, rfl, h⟩
set_option maxRecDepth 10000 in
theorem w7_governmentsNow_L4 {ad : xAd} {E : xE} (X : FX ad E cX7_governmentsNow 3 RX7 (some .int) 1 21)   {K : Int32 → xSt → Prop} {Q : Int32 → xSt → Prop} : ∀ (n : Nat) (a1 : Int32) (a2 : Int32) (σ : xSt), d7_governmentsNow_L4 K Q n a1 a2 σ → (∀ (a1 : Int32) (s : xSt), K a1 s → KK ad E (qI Q) 39 ([(1, .int a1)]) [] s) → KK ad E (qI Q) 4 ([(0, .ref (ad 13 0 0)), (1, .int a1), (2, .int a2)]) [] σ := by
  intro n
  induction n with
  | zero => intro a1 a2 σ h kk; exact h.elim
  | succ n ih =>
    intro a1 a2 σ h kk
    rw [d7_governmentsNow_L4] at h
    refine r_iload_n X (x_dr DX7_governmentsNow 4 rfl) 2 rfl rfl ?_
    refine r_bipush (v := 20) X (x_dr DX7_governmentsNow 5 rfl) (by decide) ?_
    refine r_icmp_ge X 39 (x_dr DX7_governmentsNow 6 rfl) (by decide) (fun c1 => ?_) (fun c1 => ?_)
    · replace h := h.1 c1
      refine r_norm X [1] ([(1, .int a1)]) rfl ?_
      exact kk _ _ h
    · replace h := h.2 c1
      refine r_iload_n X (x_dr DX7_governmentsNow 7 rfl) 1 rfl rfl ?_
      refine r_aload_n X (x_dr DX7_governmentsNow 8 rfl) 0 rfl rfl ?_
      refine r_iload_n X (x_dr DX7_governmentsNow 9 rfl) 2 rfl rfl ?_
      refine cl7_isCarried X (k7_isCarried h) rfl ml_7_248 ⟨Nat.le_of_ble_eq_true rfl, Nat.le_of_ble_eq_true rfl⟩ (Nat.le_of_ble_eq_true rfl) (x_dr DX7_governmentsNow 10 rfl) (fun v3 s2 zv3 h => ?_)
      refine r_aload_n X (x_dr DX7_governmentsNow 11 rfl) 0 rfl rfl ?_
      refine r_iload_n X (x_dr DX7_governmentsNow 12 rfl) 2 rfl rfl ?_
      refine r_iconst (v := 1) X (x_dr DX7_governmentsNow 13 rfl) (by decide) ?_
      refine r_isub X (x_dr DX7_governmentsNow 14 rfl) ?_
      refine cl7_isCarried X (k7_isCarried h) rfl ml_7_248 ⟨Nat.le_of_ble_eq_true rfl, Nat.le_of_ble_eq_true rfl⟩ (Nat.le_of_ble_eq_true rfl) (x_dr DX7_governmentsNow 15 rfl) (fun v5 s4 zv5 h => ?_)
      obtain ⟨j8, ej8, h⟩ := x_jn h
      have Jj8 : ∀ (v7 : Int32), j8 v7 → KK ad E (qI Q) 31 ([(0, .ref (ad 13 0 0)), (2, .int a2)]) [.int v7, .int a1] s4 := by
        intro v7 h
        rw [ej8] at h
        refine r_iadd X (x_dr DX7_governmentsNow 20 rfl) ?_
        refine r_nmI (fun v9 ev9 => ?_)
        replace h := h v9 ev9
        refine r_istore_n X ([(1, .int v9), (0, .ref (ad 13 0 0)), (2, .int a2)]) (x_dr DX7_governmentsNow 21 rfl) rfl (by decide) rfl ?_
        obtain ⟨v10, ev10⟩ : ∃ z : Int32, z = a2 + 1 := ⟨_, rfl⟩
        replace h := h v10 ev10
        refine r_iinc (v := v10) X ([(2, .int v10), (1, .int v9), (0, .ref (ad 13 0 0))]) 2 (x_dr DX7_governmentsNow 22 rfl) rfl (by rw [ev10]; rfl) (by decide) rfl ?_
        refine r_goto X 4 (x_dr DX7_governmentsNow 23 rfl) (by decide) ?_
        refine r_norm X [2, 1, 0] ([(0, .ref (ad 13 0 0)), (1, .int v9), (2, .int v10)]) rfl ?_
        exact ih _ _ _ h kk
      refine r_icmp_eq X 30 (x_dr DX7_governmentsNow 16 rfl) (by decide) (fun c11 => ?_) (fun c11 => ?_)
      · replace h := h.1 c11
        refine r_iconst (v := 0) X (x_dr DX7_governmentsNow 19 rfl) (by decide) ?_
        refine r_norm X [0, 2] ([(0, .ref (ad 13 0 0)), (2, .int a2)]) rfl ?_
        exact Jj8 _ h
      · replace h := h.2 c11
        refine r_iconst (v := 1) X (x_dr DX7_governmentsNow 17 rfl) (by decide) ?_
        refine r_goto X 31 (x_dr DX7_governmentsNow 18 rfl) (by decide) ?_
        refine r_norm X [0, 2] ([(0, .ref (ad 13 0 0)), (2, .int a2)]) rfl ?_
        exact Jj8 _ h
set_option maxRecDepth 10000 in
theorem k7_governmentsNow {ad : xAd} {G : xG} {l : Launch} {σ : xSt} {Q : Int32 → xSt → Prop}  (h : d7_governmentsNow σ Q) : MC ad G l yX7_governmentsNow cX7_governmentsNow 3 (some .int) 1 21 [.ref (ad 13 0 0)] σ (qI Q) := by
  unfold d7_governmentsNow at h
  refine x_MC [(0, .ref (ad 13 0 0))] (by decide +kernel) rfl (Nat.le_of_ble_eq_true rfl) ?_
  intro E hG hl X
  replace X : FX ad E cX7_governmentsNow 3 RX7 (some .int) 1 21 := X
  refine r_iconst (v := 0) X (x_dr DX7_governmentsNow 0 rfl) (by decide) ?_
  refine r_istore_n X ([(1, .int 0), (0, .ref (ad 13 0 0))]) (x_dr DX7_governmentsNow 1 rfl) rfl (by decide) rfl ?_
  refine r_iconst (v := 1) X (x_dr DX7_governmentsNow 2 rfl) (by decide) ?_
  refine r_istore_n X ([(2, .int 1), (1, .int 0), (0, .ref (ad 13 0 0))]) (x_dr DX7_governmentsNow 3 rfl) rfl (by decide) rfl ?_
  refine r_norm X [2, 1, 0] ([(0, .ref (ad 13 0 0)), (1, .int 0), (2, .int 1)]) rfl ?_
  refine w7_governmentsNow_L4 X  _ _ _ _ h (fun v13 s12 h => ?_)
  refine r_iload_n X (x_dr DX7_governmentsNow 24 rfl) 0 rfl rfl ?_
  exact r_iret X rfl (x_dr DX7_governmentsNow 25 rfl) ⟨_, rfl, h⟩
set_option maxRecDepth 10000 in
theorem k7_governmentsOf {ad : xAd} {G : xG} {l : Launch} {σ : xSt} {Q : Int32 → xSt → Prop}  (h : d7_governmentsOf σ Q) : MC ad G l yX7_governmentsOf cX7_governmentsOf 1 (some .int) 8 175 [.ref (ad 13 0 0)] σ (qI Q) := by
  unfold d7_governmentsOf at h
  refine x_MC [(0, .ref (ad 13 0 0))] (by decide +kernel) rfl (Nat.le_of_ble_eq_true rfl) ?_
  intro E hG hl X
  replace X : FX ad E cX7_governmentsOf 1 RX7 (some .int) 8 175 := X
  refine r_aload_n X (x_dr DX7_governmentsOf 0 rfl) 0 rfl rfl ?_
  refine cl7_runsTold X (k7_runsTold h) rfl ml_7_239 ⟨Nat.le_of_ble_eq_true rfl, Nat.le_of_ble_eq_true rfl⟩ (Nat.le_of_ble_eq_true rfl) (x_dr DX7_governmentsOf 1 rfl) (fun s1 h => ?_)
  refine r_aload_n X (x_dr DX7_governmentsOf 2 rfl) 0 rfl rfl ?_
  refine cl7_governmentsNow X (k7_governmentsNow h) rfl ml_7_254 ⟨Nat.le_of_ble_eq_true rfl, Nat.le_of_ble_eq_true rfl⟩ (Nat.le_of_ble_eq_true rfl) (x_dr DX7_governmentsOf 3 rfl) (fun v3 s2 h => ?_)
  exact r_iret X rfl (x_dr DX7_governmentsOf 4 rfl) ⟨_, rfl, h⟩
set_option maxRecDepth 10000 in
theorem k7_governments {ad : xAd} {G : xG} {l : Launch} {σ : xSt} {Q : Int32 → xSt → Prop}  (h : d7_governments σ Q) : MC ad G l yX7_governments cX7_governments 1 (some .int) 9 195 [.ref (ad 13 0 0)] σ (qI Q) := by
  unfold d7_governments at h
  refine x_MC [(0, .ref (ad 13 0 0))] (by decide +kernel) rfl (Nat.le_of_ble_eq_true rfl) ?_
  intro E hG hl X
  replace X : FX ad E cX7_governments 1 RX7 (some .int) 9 195 := X
  refine r_aload_n X (x_dr DX7_governments 0 rfl) 0 rfl rfl ?_
  refine cl7_governmentsOf X (k7_governmentsOf h) rfl ml_7_257 ⟨Nat.le_of_ble_eq_true rfl, Nat.le_of_ble_eq_true rfl⟩ (Nat.le_of_ble_eq_true rfl) (x_dr DX7_governments 1 rfl) (fun v2 s1 h => ?_)
  exact r_iret X rfl (x_dr DX7_governments 2 rfl) ⟨_, rfl, h⟩
set_option maxRecDepth 10000 in
theorem w7_carriedNow_L4 {ad : xAd} {E : xE} (X : FX ad E cX7_carriedNow 3 RX7 (some .int) 1 21)   {K : Int32 → xSt → Prop} {Q : Int32 → xSt → Prop} : ∀ (n : Nat) (a1 : Int32) (a2 : Int32) (σ : xSt), d7_carriedNow_L4 K Q n a1 a2 σ → (∀ (a1 : Int32) (s : xSt), K a1 s → KK ad E (qI Q) 32 ([(1, .int a1)]) [] s) → KK ad E (qI Q) 4 ([(0, .ref (ad 13 0 0)), (1, .int a1), (2, .int a2)]) [] σ := by
  intro n
  induction n with
  | zero => intro a1 a2 σ h kk; exact h.elim
  | succ n ih =>
    intro a1 a2 σ h kk
    rw [d7_carriedNow_L4] at h
    refine r_iload_n X (x_dr DX7_carriedNow 4 rfl) 2 rfl rfl ?_
    refine r_bipush (v := 20) X (x_dr DX7_carriedNow 5 rfl) (by decide) ?_
    refine r_icmp_ge X 32 (x_dr DX7_carriedNow 6 rfl) (by decide) (fun c1 => ?_) (fun c1 => ?_)
    · replace h := h.1 c1
      refine r_norm X [1] ([(1, .int a1)]) rfl ?_
      exact kk _ _ h
    · replace h := h.2 c1
      refine r_iload_n X (x_dr DX7_carriedNow 7 rfl) 1 rfl rfl ?_
      refine r_aload_n X (x_dr DX7_carriedNow 8 rfl) 0 rfl rfl ?_
      refine r_iload_n X (x_dr DX7_carriedNow 9 rfl) 2 rfl rfl ?_
      refine cl7_isCarried X (k7_isCarried h) rfl ml_7_248 ⟨Nat.le_of_ble_eq_true rfl, Nat.le_of_ble_eq_true rfl⟩ (Nat.le_of_ble_eq_true rfl) (x_dr DX7_carriedNow 10 rfl) (fun v3 s2 zv3 h => ?_)
      obtain ⟨j6, ej6, h⟩ := x_jn h
      have Jj6 : ∀ (v5 : Int32), j6 v5 → KK ad E (qI Q) 24 ([(0, .ref (ad 13 0 0)), (2, .int a2)]) [.int v5, .int a1] s2 := by
        intro v5 h
        rw [ej6] at h
        refine r_iadd X (x_dr DX7_carriedNow 15 rfl) ?_
        refine r_nmI (fun v7 ev7 => ?_)
        replace h := h v7 ev7
        refine r_istore_n X ([(1, .int v7), (0, .ref (ad 13 0 0)), (2, .int a2)]) (x_dr DX7_carriedNow 16 rfl) rfl (by decide) rfl ?_
        obtain ⟨v8, ev8⟩ : ∃ z : Int32, z = a2 + 1 := ⟨_, rfl⟩
        replace h := h v8 ev8
        refine r_iinc (v := v8) X ([(2, .int v8), (1, .int v7), (0, .ref (ad 13 0 0))]) 2 (x_dr DX7_carriedNow 17 rfl) rfl (by rw [ev8]; rfl) (by decide) rfl ?_
        refine r_goto X 4 (x_dr DX7_carriedNow 18 rfl) (by decide) ?_
        refine r_norm X [2, 1, 0] ([(0, .ref (ad 13 0 0)), (1, .int v7), (2, .int v8)]) rfl ?_
        exact ih _ _ _ h kk
      refine r_if_eq X 23 (x_dr DX7_carriedNow 11 rfl) (by decide) (fun c9 => ?_) (fun c9 => ?_)
      · replace h := h.1 c9
        refine r_iconst (v := 0) X (x_dr DX7_carriedNow 14 rfl) (by decide) ?_
        refine r_norm X [0, 2] ([(0, .ref (ad 13 0 0)), (2, .int a2)]) rfl ?_
        exact Jj6 _ h
      · replace h := h.2 c9
        refine r_iconst (v := 1) X (x_dr DX7_carriedNow 12 rfl) (by decide) ?_
        refine r_goto X 24 (x_dr DX7_carriedNow 13 rfl) (by decide) ?_
        refine r_norm X [0, 2] ([(0, .ref (ad 13 0 0)), (2, .int a2)]) rfl ?_
        exact Jj6 _ h
set_option maxRecDepth 10000 in
theorem k7_carriedNow {ad : xAd} {G : xG} {l : Launch} {σ : xSt} {Q : Int32 → xSt → Prop}  (h : d7_carriedNow σ Q) : MC ad G l yX7_carriedNow cX7_carriedNow 3 (some .int) 1 21 [.ref (ad 13 0 0)] σ (qI Q) := by
  unfold d7_carriedNow at h
  refine x_MC [(0, .ref (ad 13 0 0))] (by decide +kernel) rfl (Nat.le_of_ble_eq_true rfl) ?_
  intro E hG hl X
  replace X : FX ad E cX7_carriedNow 3 RX7 (some .int) 1 21 := X
  refine r_iconst (v := 0) X (x_dr DX7_carriedNow 0 rfl) (by decide) ?_
  refine r_istore_n X ([(1, .int 0), (0, .ref (ad 13 0 0))]) (x_dr DX7_carriedNow 1 rfl) rfl (by decide) rfl ?_
  refine r_iconst (v := 0) X (x_dr DX7_carriedNow 2 rfl) (by decide) ?_
  refine r_istore_n X ([(2, .int 0), (1, .int 0), (0, .ref (ad 13 0 0))]) (x_dr DX7_carriedNow 3 rfl) rfl (by decide) rfl ?_
  refine r_norm X [2, 1, 0] ([(0, .ref (ad 13 0 0)), (1, .int 0), (2, .int 0)]) rfl ?_
  refine w7_carriedNow_L4 X  _ _ _ _ h (fun v11 s10 h => ?_)
  refine r_iload_n X (x_dr DX7_carriedNow 19 rfl) 0 rfl rfl ?_
  exact r_iret X rfl (x_dr DX7_carriedNow 20 rfl) ⟨_, rfl, h⟩
set_option maxRecDepth 10000 in
theorem k7_carriedOf {ad : xAd} {G : xG} {l : Launch} {σ : xSt} {Q : Int32 → xSt → Prop}  (h : d7_carriedOf σ Q) : MC ad G l yX7_carriedOf cX7_carriedOf 1 (some .int) 8 175 [.ref (ad 13 0 0)] σ (qI Q) := by
  unfold d7_carriedOf at h
  refine x_MC [(0, .ref (ad 13 0 0))] (by decide +kernel) rfl (Nat.le_of_ble_eq_true rfl) ?_
  intro E hG hl X
  replace X : FX ad E cX7_carriedOf 1 RX7 (some .int) 8 175 := X
  refine r_aload_n X (x_dr DX7_carriedOf 0 rfl) 0 rfl rfl ?_
  refine cl7_runsTold X (k7_runsTold h) rfl ml_7_239 ⟨Nat.le_of_ble_eq_true rfl, Nat.le_of_ble_eq_true rfl⟩ (Nat.le_of_ble_eq_true rfl) (x_dr DX7_carriedOf 1 rfl) (fun s1 h => ?_)
  refine r_aload_n X (x_dr DX7_carriedOf 2 rfl) 0 rfl rfl ?_
  refine cl7_carriedNow X (k7_carriedNow h) rfl ml_7_260 ⟨Nat.le_of_ble_eq_true rfl, Nat.le_of_ble_eq_true rfl⟩ (Nat.le_of_ble_eq_true rfl) (x_dr DX7_carriedOf 3 rfl) (fun v3 s2 h => ?_)
  exact r_iret X rfl (x_dr DX7_carriedOf 4 rfl) ⟨_, rfl, h⟩
set_option maxRecDepth 10000 in
theorem k7_carried {ad : xAd} {G : xG} {l : Launch} {σ : xSt} {Q : Int32 → xSt → Prop}  (h : d7_carried σ Q) : MC ad G l yX7_carried cX7_carried 1 (some .int) 9 195 [.ref (ad 13 0 0)] σ (qI Q) := by
  unfold d7_carried at h
  refine x_MC [(0, .ref (ad 13 0 0))] (by decide +kernel) rfl (Nat.le_of_ble_eq_true rfl) ?_
  intro E hG hl X
  replace X : FX ad E cX7_carried 1 RX7 (some .int) 9 195 := X
  refine r_aload_n X (x_dr DX7_carried 0 rfl) 0 rfl rfl ?_
  refine cl7_carriedOf X (k7_carriedOf h) rfl ml_7_263 ⟨Nat.le_of_ble_eq_true rfl, Nat.le_of_ble_eq_true rfl⟩ (Nat.le_of_ble_eq_true rfl) (x_dr DX7_carried 1 rfl) (fun v2 s1 h => ?_)
  exact r_iret X rfl (x_dr DX7_carried 2 rfl) ⟨_, rfl, h⟩
set_option maxRecDepth 10000 in
theorem w7_crowdOf_L11 {ad : xAd} {E : xE} (X : FX ad E cX7_crowdOf 6 RX7 (some .int) 8 175)   {a1 : Int32} {K : Int32 → Int32 → xSt → Prop} {Q : Int32 → xSt → Prop} : ∀ (n : Nat) (a2 : Int32) (a3 : Int32) (a4 : Int32) (σ : xSt), d7_crowdOf_L11 a1 K Q n a2 a3 a4 σ → (∀ (a2 : Int32) (a3 : Int32) (s : xSt), K a2 a3 s → KK ad E (qI Q) 67 ([(1, .int a1), (2, .int a2), (3, .int a3)]) [] s) → KK ad E (qI Q) 11 ([(0, .ref (ad 13 0 0)), (1, .int a1), (2, .int a2), (3, .int a3), (4, .int a4)]) [] σ := by
  intro n
  induction n with
  | zero => intro a2 a3 a4 σ h kk; exact h.elim
  | succ n ih =>
    intro a2 a3 a4 σ h kk
    rw [d7_crowdOf_L11] at h
    refine r_iload X (x_dr DX7_crowdOf 8 rfl) 4 rfl ?_
    refine r_sipush (v := 240) X (x_dr DX7_crowdOf 9 rfl) (by decide) ?_
    refine r_icmp_ge X 67 (x_dr DX7_crowdOf 10 rfl) (by decide) (fun c2 => ?_) (fun c2 => ?_)
    · replace h := h.1 c2
      refine r_norm X [1, 2, 3] ([(1, .int a1), (2, .int a2), (3, .int a3)]) rfl ?_
      exact kk _ _ _ h
    · replace h := h.2 c2
      refine r_aload_n X (x_dr DX7_crowdOf 11 rfl) 0 rfl rfl ?_
      refine r_iload X (x_dr DX7_crowdOf 12 rfl) 4 rfl ?_
      refine r_bipush (v := 12) X (x_dr DX7_crowdOf 13 rfl) (by decide) ?_
      obtain ⟨b3, h⟩ := h
      refine r_idiv X (x_dr DX7_crowdOf 14 rfl) b3 ?_
      refine r_iload X (x_dr DX7_crowdOf 15 rfl) 4 rfl ?_
      refine r_bipush (v := 12) X (x_dr DX7_crowdOf 16 rfl) (by decide) ?_
      obtain ⟨b4, h⟩ := h
      refine r_irem X (x_dr DX7_crowdOf 17 rfl) b4 ?_
      refine cl7_manyAt X (k7_manyAt h) rfl ml_7_224 ⟨Nat.le_of_ble_eq_true rfl, Nat.le_of_ble_eq_true rfl⟩ (Nat.le_of_ble_eq_true rfl) (x_dr DX7_crowdOf 18 rfl) (fun v6 s5 h => ?_)
      refine r_istore X ([(5, .int v6), (0, .ref (ad 13 0 0)), (1, .int a1), (2, .int a2), (3, .int a3), (4, .int a4)]) (x_dr DX7_crowdOf 19 rfl) (by decide) rfl ?_
      refine r_iload X (x_dr DX7_crowdOf 20 rfl) 0 rfl ?_
      refine r_iload_n X (x_dr DX7_crowdOf 21 rfl) 4 rfl rfl ?_
      obtain ⟨j9, ej9, h⟩ := x_jn h
      have Jj9 : ∀ (v8 : Int32), j9 v8 → KK ad E (qI Q) 47 ([(0, .ref (ad 13 0 0)), (1, .int a1), (3, .int a3), (4, .int a4), (5, .int v6)]) [.int v8] s5 := by
        intro v8 h
        rw [ej9] at h
        refine r_istore_n X ([(2, .int v8), (0, .ref (ad 13 0 0)), (1, .int a1), (3, .int a3), (4, .int a4), (5, .int v6)]) (x_dr DX7_crowdOf 26 rfl) rfl (by decide) rfl ?_
        refine r_iload X (x_dr DX7_crowdOf 27 rfl) 5 rfl ?_
        refine r_iload_n X (x_dr DX7_crowdOf 28 rfl) 3 rfl rfl ?_
        refine r_icmp_le X 59 (x_dr DX7_crowdOf 29 rfl) (by decide) (fun c10 => ?_) (fun c10 => ?_)
        · replace h := h.1 c10
          refine r_iload_n X (x_dr DX7_crowdOf 32 rfl) 3 rfl rfl ?_
          refine r_istore_n X ([(3, .int a3), (2, .int v8), (0, .ref (ad 13 0 0)), (1, .int a1), (4, .int a4), (5, .int v6)]) (x_dr DX7_crowdOf 33 rfl) rfl (by decide) rfl ?_
          obtain ⟨v11, ev11⟩ : ∃ z : Int32, z = a4 + 1 := ⟨_, rfl⟩
          replace h := h v11 ev11
          refine r_iinc (v := v11) X ([(4, .int v11), (3, .int a3), (2, .int v8), (0, .ref (ad 13 0 0)), (1, .int a1), (5, .int v6)]) 4 (x_dr DX7_crowdOf 34 rfl) rfl (by rw [ev11]; rfl) (by decide) rfl ?_
          refine r_goto X 11 (x_dr DX7_crowdOf 35 rfl) (by decide) ?_
          refine r_norm X [3, 4, 2, 1, 0] ([(0, .ref (ad 13 0 0)), (1, .int a1), (2, .int v8), (3, .int a3), (4, .int v11)]) rfl ?_
          exact ih _ _ _ _ h kk
        · replace h := h.2 c10
          refine r_iload X (x_dr DX7_crowdOf 30 rfl) 5 rfl ?_
          refine r_goto X 60 (x_dr DX7_crowdOf 31 rfl) (by decide) ?_
          refine r_istore_n X ([(3, .int v6), (2, .int v8), (0, .ref (ad 13 0 0)), (1, .int a1), (4, .int a4), (5, .int v6)]) (x_dr DX7_crowdOf 33 rfl) rfl (by decide) rfl ?_
          obtain ⟨v12, ev12⟩ : ∃ z : Int32, z = a4 + 1 := ⟨_, rfl⟩
          replace h := h v12 ev12
          refine r_iinc (v := v12) X ([(4, .int v12), (3, .int v6), (2, .int v8), (0, .ref (ad 13 0 0)), (1, .int a1), (5, .int v6)]) 4 (x_dr DX7_crowdOf 34 rfl) rfl (by rw [ev12]; rfl) (by decide) rfl ?_
          refine r_goto X 11 (x_dr DX7_crowdOf 35 rfl) (by decide) ?_
          refine r_norm X [3, 4, 2, 1, 0] ([(0, .ref (ad 13 0 0)), (1, .int a1), (2, .int v8), (3, .int v6), (4, .int v12)]) rfl ?_
          exact ih _ _ _ _ h kk
      refine r_icmp_le X 46 (x_dr DX7_crowdOf 22 rfl) (by decide) (fun c13 => ?_) (fun c13 => ?_)
      · replace h := h.1 c13
        refine r_iload_n X (x_dr DX7_crowdOf 25 rfl) 3 rfl rfl ?_
        refine r_norm X [1, 2, 4, 5, 0] ([(0, .ref (ad 13 0 0)), (1, .int a1), (3, .int a3), (4, .int a4), (5, .int v6)]) rfl ?_
        exact Jj9 _ h
      · replace h := h.2 c13
        refine r_iload X (x_dr DX7_crowdOf 23 rfl) 5 rfl ?_
        refine r_goto X 47 (x_dr DX7_crowdOf 24 rfl) (by decide) ?_
        refine r_norm X [1, 2, 4, 5, 0] ([(0, .ref (ad 13 0 0)), (1, .int a1), (3, .int a3), (4, .int a4), (5, .int v6)]) rfl ?_
        exact Jj9 _ h
