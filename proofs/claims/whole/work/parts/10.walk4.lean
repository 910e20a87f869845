set_option maxRecDepth 10000 in
theorem k7_crowdOf {ad : xAd} {G : xG} {l : Launch} {a1 : Int32} {σ : xSt} {Q : Int32 → xSt → Prop}  (h : d7_crowdOf a1 σ Q) : MC ad G l yX7_crowdOf cX7_crowdOf 6 (some .int) 8 175 [.ref (ad 13 0 0), .int a1] σ (qI Q) := by
  unfold d7_crowdOf at h
  refine x_MC [(0, .ref (ad 13 0 0)), (1, .int a1)] (by decide +kernel) rfl (Nat.le_of_ble_eq_true rfl) ?_
  intro E hG hl X
  replace X : FX ad E cX7_crowdOf 6 RX7 (some .int) 8 175 := X
  refine r_aload_n X (x_dr DX7_crowdOf 0 rfl) 0 rfl rfl ?_
  refine cl7_runsTold X (k7_runsTold h) rfl ml_7_239 ⟨Nat.le_of_ble_eq_true rfl, Nat.le_of_ble_eq_true rfl⟩ (Nat.le_of_ble_eq_true rfl) (x_dr DX7_crowdOf 1 rfl) (fun s1 h => ?_)
  refine r_iconst (v := (-1)) X (x_dr DX7_crowdOf 2 rfl) (by decide) ?_
  refine r_istore_n X ([(2, .int (-1)), (0, .ref (ad 13 0 0)), (1, .int a1)]) (x_dr DX7_crowdOf 3 rfl) rfl (by decide) rfl ?_
  refine r_iconst (v := 0) X (x_dr DX7_crowdOf 4 rfl) (by decide) ?_
  refine r_istore_n X ([(3, .int 0), (2, .int (-1)), (0, .ref (ad 13 0 0)), (1, .int a1)]) (x_dr DX7_crowdOf 5 rfl) rfl (by decide) rfl ?_
  refine r_iconst (v := 0) X (x_dr DX7_crowdOf 6 rfl) (by decide) ?_
  refine r_istore X ([(4, .int 0), (3, .int 0), (2, .int (-1)), (0, .ref (ad 13 0 0)), (1, .int a1)]) (x_dr DX7_crowdOf 7 rfl) (by decide) rfl ?_
  refine r_norm X [3, 4, 2, 1, 0] ([(0, .ref (ad 13 0 0)), (1, .int a1), (2, .int (-1)), (3, .int 0), (4, .int 0)]) rfl ?_
  refine w7_crowdOf_L11 X  _ _ _ _ _ h (fun v15 v16 s14 h => ?_)
  refine r_iload_n X (x_dr DX7_crowdOf 36 rfl) 1 rfl rfl ?_
  refine r_iconst (v := (-1)) X (x_dr DX7_crowdOf 37 rfl) (by decide) ?_
  refine r_icmp_ne X 76 (x_dr DX7_crowdOf 38 rfl) (by decide) (fun c17 => ?_) (fun c17 => ?_)
  · replace h := h.1 c17
    refine r_iload_n X (x_dr DX7_crowdOf 41 rfl) 0 rfl rfl ?_
    refine r_if_ne X 87 (x_dr DX7_crowdOf 42 rfl) (by decide) (fun c18 => ?_) (fun c18 => ?_)
    · replace h := h.1 c18
      refine r_iload_n X (x_dr DX7_crowdOf 47 rfl) 0 rfl rfl ?_
      refine r_iconst (v := 1) X (x_dr DX7_crowdOf 48 rfl) (by decide) ?_
      refine r_icmp_ne X 99 (x_dr DX7_crowdOf 49 rfl) (by decide) (fun c19 => ?_) (fun c19 => ?_)
      · replace h := h.1 c19
        refine r_iload_n X (x_dr DX7_crowdOf 54 rfl) 2 rfl rfl ?_
        exact r_iret X rfl (x_dr DX7_crowdOf 55 rfl) ⟨_, rfl, h⟩
      · replace h := h.2 c19
        refine r_iload_n X (x_dr DX7_crowdOf 50 rfl) 1 rfl rfl ?_
        refine r_bipush (v := 12) X (x_dr DX7_crowdOf 51 rfl) (by decide) ?_
        obtain ⟨b20, h⟩ := h
        refine r_irem X (x_dr DX7_crowdOf 52 rfl) b20 ?_
        refine r_goto X 100 (x_dr DX7_crowdOf 53 rfl) (by decide) ?_
        exact r_iret X rfl (x_dr DX7_crowdOf 55 rfl) ⟨_, rfl, h⟩
    · replace h := h.2 c18
      refine r_iload_n X (x_dr DX7_crowdOf 43 rfl) 1 rfl rfl ?_
      refine r_bipush (v := 12) X (x_dr DX7_crowdOf 44 rfl) (by decide) ?_
      obtain ⟨b21, h⟩ := h
      refine r_idiv X (x_dr DX7_crowdOf 45 rfl) b21 ?_
      refine r_goto X 100 (x_dr DX7_crowdOf 46 rfl) (by decide) ?_
      exact r_iret X rfl (x_dr DX7_crowdOf 55 rfl) ⟨_, rfl, h⟩
  · replace h := h.2 c17
    refine r_iconst (v := (-1)) X (x_dr DX7_crowdOf 39 rfl) (by decide) ?_
    refine r_goto X 100 (x_dr DX7_crowdOf 40 rfl) (by decide) ?_
    exact r_iret X rfl (x_dr DX7_crowdOf 55 rfl) ⟨_, rfl, h⟩
set_option maxRecDepth 10000 in
theorem k7_crowd {ad : xAd} {G : xG} {l : Launch} {a1 : Int32} {σ : xSt} {Q : Int32 → xSt → Prop}  (h : d7_crowd a1 σ Q) : MC ad G l yX7_crowd cX7_crowd 2 (some .int) 9 200 [.ref (ad 13 0 0), .int a1] σ (qI Q) := by
  unfold d7_crowd at h
  refine x_MC [(0, .ref (ad 13 0 0)), (1, .int a1)] (by decide +kernel) rfl (Nat.le_of_ble_eq_true rfl) ?_
  intro E hG hl X
  replace X : FX ad E cX7_crowd 2 RX7 (some .int) 9 200 := X
  refine r_iload_n X (x_dr DX7_crowd 0 rfl) 1 rfl rfl ?_
  refine r_iconst (v := 0) X (x_dr DX7_crowd 1 rfl) (by decide) ?_
  refine r_iconst (v := 2) X (x_dr DX7_crowd 2 rfl) (by decide) ?_
  refine cl7_in X (k7_in h) ml_7_115 ⟨Nat.le_of_ble_eq_true rfl, Nat.le_of_ble_eq_true rfl⟩ (Nat.le_of_ble_eq_true rfl) (x_dr DX7_crowd 3 rfl) (fun v2 s1 zv2 h => ?_)
  refine r_if_eq X 17 (x_dr DX7_crowd 4 rfl) (by decide) (fun c3 => ?_) (fun c3 => ?_)
  · replace h := h.1 c3
    refine r_bipush (v := (-2)) X (x_dr DX7_crowd 9 rfl) (by decide) ?_
    exact r_iret X rfl (x_dr DX7_crowd 10 rfl) ⟨_, rfl, h⟩
  · replace h := h.2 c3
    refine r_aload_n X (x_dr DX7_crowd 5 rfl) 0 rfl rfl ?_
    refine r_iload_n X (x_dr DX7_crowd 6 rfl) 1 rfl rfl ?_
    refine cl7_crowdOf X (k7_crowdOf h) rfl ml_7_266 ⟨Nat.le_of_ble_eq_true rfl, Nat.le_of_ble_eq_true rfl⟩ (Nat.le_of_ble_eq_true rfl) (x_dr DX7_crowd 7 rfl) (fun v5 s4 h => ?_)
    refine r_goto X 19 (x_dr DX7_crowd 8 rfl) (by decide) ?_
    exact r_iret X rfl (x_dr DX7_crowd 10 rfl) ⟨_, rfl, h⟩
set_option maxRecDepth 10000 in
theorem w7_oratorOf_L8 {ad : xAd} {E : xE} (X : FX ad E cX7_oratorOf 3 RX7 (some .int) 8 175)   {K : Int32 → xSt → Prop} {Q : Int32 → xSt → Prop} : ∀ (n : Nat) (a1 : Int32) (a2 : Int32) (σ : xSt), d7_oratorOf_L8 K Q n a1 a2 σ → (∀ (a1 : Int32) (s : xSt), K a1 s → KK ad E (qI Q) 48 ([(1, .int a1)]) [] s) → KK ad E (qI Q) 8 ([(0, .ref (ad 13 0 0)), (1, .int a1), (2, .int a2)]) [] σ := by
  intro n
  induction n with
  | zero => intro a1 a2 σ h kk; exact h.elim
  | succ n ih =>
    intro a1 a2 σ h kk
    rw [d7_oratorOf_L8] at h
    refine r_iload_n X (x_dr DX7_oratorOf 6 rfl) 2 rfl rfl ?_
    refine r_aload_n X (x_dr DX7_oratorOf 7 rfl) 0 rfl rfl ?_
    refine gf_7_134 X rfl (x_dr DX7_oratorOf 8 rfl) ?_
    refine r_icmp_ge X 48 (x_dr DX7_oratorOf 9 rfl) (by decide) (fun c2 => ?_) (fun c2 => ?_)
    · replace h := h.1 c2
      refine r_norm X [1] ([(1, .int a1)]) rfl ?_
      exact kk _ _ h
    · replace h := h.2 c2
      refine r_iload_n X (x_dr DX7_oratorOf 10 rfl) 1 rfl rfl ?_
      refine r_iconst (v := (-1)) X (x_dr DX7_oratorOf 11 rfl) (by decide) ?_
      refine r_icmp_eq X 36 (x_dr DX7_oratorOf 12 rfl) (by decide) (fun c3 => ?_) (fun c3 => ?_)
      · replace h := h.1 c3
        refine r_iload_n X (x_dr DX7_oratorOf 22 rfl) 2 rfl rfl ?_
        refine r_goto X 41 (x_dr DX7_oratorOf 23 rfl) (by decide) ?_
        refine r_istore_n X ([(1, .int a2), (0, .ref (ad 13 0 0)), (2, .int a2)]) (x_dr DX7_oratorOf 25 rfl) rfl (by decide) rfl ?_
        obtain ⟨v4, ev4⟩ : ∃ z : Int32, z = a2 + 1 := ⟨_, rfl⟩
        replace h := h v4 ev4
        refine r_iinc (v := v4) X ([(2, .int v4), (1, .int a2), (0, .ref (ad 13 0 0))]) 2 (x_dr DX7_oratorOf 26 rfl) rfl (by rw [ev4]; rfl) (by decide) rfl ?_
        refine r_goto X 8 (x_dr DX7_oratorOf 27 rfl) (by decide) ?_
        refine r_norm X [2, 1, 0] ([(0, .ref (ad 13 0 0)), (1, .int a2), (2, .int v4)]) rfl ?_
        exact ih _ _ _ h kk
      · replace h := h.2 c3
        refine r_aload_n X (x_dr DX7_oratorOf 13 rfl) 0 rfl rfl ?_
        refine gf_7_58 X rfl (x_dr DX7_oratorOf 14 rfl) ?_
        refine r_iload_n X (x_dr DX7_oratorOf 15 rfl) 2 rfl rfl ?_
        obtain ⟨b5, h⟩ := h
        refine r_iald X rfl rfl b5 (x_dr DX7_oratorOf 16 rfl) ?_
        refine r_aload_n X (x_dr DX7_oratorOf 17 rfl) 0 rfl rfl ?_
        refine gf_7_58 X rfl (x_dr DX7_oratorOf 18 rfl) ?_
        refine r_iload_n X (x_dr DX7_oratorOf 19 rfl) 1 rfl rfl ?_
        obtain ⟨b6, h⟩ := h
        refine r_iald X rfl rfl b6 (x_dr DX7_oratorOf 20 rfl) ?_
        refine r_icmp_le X 40 (x_dr DX7_oratorOf 21 rfl) (by decide) (fun c7 => ?_) (fun c7 => ?_)
        · replace h := h.1 c7
          refine r_iload_n X (x_dr DX7_oratorOf 24 rfl) 1 rfl rfl ?_
          refine r_istore_n X ([(1, .int a1), (0, .ref (ad 13 0 0)), (2, .int a2)]) (x_dr DX7_oratorOf 25 rfl) rfl (by decide) rfl ?_
          obtain ⟨v8, ev8⟩ : ∃ z : Int32, z = a2 + 1 := ⟨_, rfl⟩
          replace h := h v8 ev8
          refine r_iinc (v := v8) X ([(2, .int v8), (1, .int a1), (0, .ref (ad 13 0 0))]) 2 (x_dr DX7_oratorOf 26 rfl) rfl (by rw [ev8]; rfl) (by decide) rfl ?_
          refine r_goto X 8 (x_dr DX7_oratorOf 27 rfl) (by decide) ?_
          refine r_norm X [2, 1, 0] ([(0, .ref (ad 13 0 0)), (1, .int a1), (2, .int v8)]) rfl ?_
          exact ih _ _ _ h kk
        · replace h := h.2 c7
          refine r_iload_n X (x_dr DX7_oratorOf 22 rfl) 2 rfl rfl ?_
          refine r_goto X 41 (x_dr DX7_oratorOf 23 rfl) (by decide) ?_
          refine r_istore_n X ([(1, .int a2), (0, .ref (ad 13 0 0)), (2, .int a2)]) (x_dr DX7_oratorOf 25 rfl) rfl (by decide) rfl ?_
          obtain ⟨v9, ev9⟩ : ∃ z : Int32, z = a2 + 1 := ⟨_, rfl⟩
          replace h := h v9 ev9
          refine r_iinc (v := v9) X ([(2, .int v9), (1, .int a2), (0, .ref (ad 13 0 0))]) 2 (x_dr DX7_oratorOf 26 rfl) rfl (by rw [ev9]; rfl) (by decide) rfl ?_
          refine r_goto X 8 (x_dr DX7_oratorOf 27 rfl) (by decide) ?_
          refine r_norm X [2, 1, 0] ([(0, .ref (ad 13 0 0)), (1, .int a2), (2, .int v9)]) rfl ?_
          exact ih _ _ _ h kk
set_option maxRecDepth 10000 in
theorem k7_oratorOf {ad : xAd} {G : xG} {l : Launch} {σ : xSt} {Q : Int32 → xSt → Prop}  (h : d7_oratorOf σ Q) : MC ad G l yX7_oratorOf cX7_oratorOf 3 (some .int) 8 175 [.ref (ad 13 0 0)] σ (qI Q) := by
  unfold d7_oratorOf at h
  refine x_MC [(0, .ref (ad 13 0 0))] (by decide +kernel) rfl (Nat.le_of_ble_eq_true rfl) ?_
  intro E hG hl X
  replace X : FX ad E cX7_oratorOf 3 RX7 (some .int) 8 175 := X
  refine r_aload_n X (x_dr DX7_oratorOf 0 rfl) 0 rfl rfl ?_
  refine cl7_runsTold X (k7_runsTold h) rfl ml_7_239 ⟨Nat.le_of_ble_eq_true rfl, Nat.le_of_ble_eq_true rfl⟩ (Nat.le_of_ble_eq_true rfl) (x_dr DX7_oratorOf 1 rfl) (fun s1 h => ?_)
  refine r_iconst (v := (-1)) X (x_dr DX7_oratorOf 2 rfl) (by decide) ?_
  refine r_istore_n X ([(1, .int (-1)), (0, .ref (ad 13 0 0))]) (x_dr DX7_oratorOf 3 rfl) rfl (by decide) rfl ?_
  refine r_iconst (v := 0) X (x_dr DX7_oratorOf 4 rfl) (by decide) ?_
  refine r_istore_n X ([(2, .int 0), (1, .int (-1)), (0, .ref (ad 13 0 0))]) (x_dr DX7_oratorOf 5 rfl) rfl (by decide) rfl ?_
  refine r_norm X [2, 1, 0] ([(0, .ref (ad 13 0 0)), (1, .int (-1)), (2, .int 0)]) rfl ?_
  refine w7_oratorOf_L8 X  _ _ _ _ h (fun v11 s10 h => ?_)
  refine r_iload_n X (x_dr DX7_oratorOf 28 rfl) 0 rfl rfl ?_
  exact r_iret X rfl (x_dr DX7_oratorOf 29 rfl) ⟨_, rfl, h⟩
set_option maxRecDepth 10000 in
theorem k7_orator {ad : xAd} {G : xG} {l : Launch} {σ : xSt} {Q : Int32 → xSt → Prop}  (h : d7_orator σ Q) : MC ad G l yX7_orator cX7_orator 1 (some .int) 9 197 [.ref (ad 13 0 0)] σ (qI Q) := by
  unfold d7_orator at h
  refine x_MC [(0, .ref (ad 13 0 0))] (by decide +kernel) rfl (Nat.le_of_ble_eq_true rfl) ?_
  intro E hG hl X
  replace X : FX ad E cX7_orator 1 RX7 (some .int) 9 197 := X
  refine r_aload_n X (x_dr DX7_orator 0 rfl) 0 rfl rfl ?_
  refine cl7_oratorOf X (k7_oratorOf h) rfl ml_7_269 ⟨Nat.le_of_ble_eq_true rfl, Nat.le_of_ble_eq_true rfl⟩ (Nat.le_of_ble_eq_true rfl) (x_dr DX7_orator 1 rfl) (fun v2 s1 h => ?_)
  exact r_iret X rfl (x_dr DX7_orator 2 rfl) ⟨_, rfl, h⟩
set_option maxRecDepth 10000 in
theorem k7_stillOf {ad : xAd} {G : xG} {l : Launch} {σ : xSt} {Q : Int32 → xSt → Prop}  (h : d7_stillOf σ Q) : MC ad G l yX7_stillOf cX7_stillOf 1 (some .int) 8 175 [.ref (ad 13 0 0)] σ (qI Q) := by
  unfold d7_stillOf at h
  refine x_MC [(0, .ref (ad 13 0 0))] (by decide +kernel) rfl (Nat.le_of_ble_eq_true rfl) ?_
  intro E hG hl X
  replace X : FX ad E cX7_stillOf 1 RX7 (some .int) 8 175 := X
  refine r_aload_n X (x_dr DX7_stillOf 0 rfl) 0 rfl rfl ?_
  refine cl7_runsTold X (k7_runsTold h) rfl ml_7_239 ⟨Nat.le_of_ble_eq_true rfl, Nat.le_of_ble_eq_true rfl⟩ (Nat.le_of_ble_eq_true rfl) (x_dr DX7_stillOf 1 rfl) (fun s1 h => ?_)
  refine r_iconst (v := 1) X (x_dr DX7_stillOf 2 rfl) (by decide) ?_
  refine r_aload_n X (x_dr DX7_stillOf 3 rfl) 0 rfl rfl ?_
  refine gf_7_134 X rfl (x_dr DX7_stillOf 4 rfl) ?_
  refine r_ishl X (x_dr DX7_stillOf 5 rfl) ?_
  refine r_iconst (v := 1) X (x_dr DX7_stillOf 6 rfl) (by decide) ?_
  refine r_isub X (x_dr DX7_stillOf 7 rfl) ?_
  refine r_aload_n X (x_dr DX7_stillOf 8 rfl) 0 rfl rfl ?_
  refine gf_7_205 X rfl (x_dr DX7_stillOf 9 rfl) ?_
  refine r_iconst (v := (-1)) X (x_dr DX7_stillOf 10 rfl) (by decide) ?_
  refine r_ixor X (x_dr DX7_stillOf 11 rfl) ?_
  refine r_iand X (x_dr DX7_stillOf 12 rfl) ?_
  exact r_iret X rfl (x_dr DX7_stillOf 13 rfl) ⟨_, rfl, h⟩
set_option maxRecDepth 10000 in
theorem k7_still {ad : xAd} {G : xG} {l : Launch} {σ : xSt} {Q : Int32 → xSt → Prop}  (h : d7_still σ Q) : MC ad G l yX7_still cX7_still 1 (some .int) 9 195 [.ref (ad 13 0 0)] σ (qI Q) := by
  unfold d7_still at h
  refine x_MC [(0, .ref (ad 13 0 0))] (by decide +kernel) rfl (Nat.le_of_ble_eq_true rfl) ?_
  intro E hG hl X
  replace X : FX ad E cX7_still 1 RX7 (some .int) 9 195 := X
  refine r_aload_n X (x_dr DX7_still 0 rfl) 0 rfl rfl ?_
  refine cl7_stillOf X (k7_stillOf h) rfl ml_7_272 ⟨Nat.le_of_ble_eq_true rfl, Nat.le_of_ble_eq_true rfl⟩ (Nat.le_of_ble_eq_true rfl) (x_dr DX7_still 1 rfl) (fun v2 s1 h => ?_)
  exact r_iret X rfl (x_dr DX7_still 2 rfl) ⟨_, rfl, h⟩
set_option maxRecDepth 10000 in
theorem w7_seatOf_L20 {ad : xAd} {E : xE} (X : FX ad E cX7_seatOf 8 RX7 (some .int) 7 155)   {a1 : Int32} {a2 : Int32} {a3 : Int32} {K : Int32 → Int32 → xSt → Prop} {Q : Int32 → xSt → Prop} : ∀ (n : Nat) (a4 : Int32) (a5 : Int32) (a6 : Int32) (σ : xSt), d7_seatOf_L20 a1 a2 a3 K Q n a4 a5 a6 σ → (∀ (a4 : Int32) (a5 : Int32) (s : xSt), K a4 a5 s → KK ad E (qI Q) 83 ([(0, .ref (ad 13 0 0)), (1, .int a1), (2, .int a2), (3, .int a3), (4, .int a4), (5, .int a5)]) [] s) → KK ad E (qI Q) 20 ([(0, .ref (ad 13 0 0)), (1, .int a1), (2, .int a2), (3, .int a3), (4, .int a4), (5, .int a5), (6, .int a6)]) [] σ := by
  intro n
  induction n with
  | zero => intro a4 a5 a6 σ h kk; exact h.elim
  | succ n ih =>
    intro a4 a5 a6 σ h kk
    rw [d7_seatOf_L20] at h
    refine r_iload X (x_dr DX7_seatOf 13 rfl) 6 rfl ?_
    refine r_bipush (v := 12) X (x_dr DX7_seatOf 14 rfl) (by decide) ?_
    refine r_icmp_ge X 83 (x_dr DX7_seatOf 15 rfl) (by decide) (fun c4 => ?_) (fun c4 => ?_)
    · replace h := h.1 c4
      refine r_norm X [0, 1, 2, 3, 4, 5] ([(0, .ref (ad 13 0 0)), (1, .int a1), (2, .int a2), (3, .int a3), (4, .int a4), (5, .int a5)]) rfl ?_
      exact kk _ _ _ h
    · replace h := h.2 c4
      refine r_aload_n X (x_dr DX7_seatOf 16 rfl) 0 rfl rfl ?_
      refine gf_7_22 X rfl (x_dr DX7_seatOf 17 rfl) ?_
      refine r_iload_n X (x_dr DX7_seatOf 18 rfl) 1 rfl rfl ?_
      refine r_iload X (x_dr DX7_seatOf 19 rfl) 6 rfl ?_
      obtain ⟨b5, h⟩ := h
      refine r_iast X rfl rfl b5 (x_dr DX7_seatOf 20 rfl) ?_
      refine r_nmS (fun s6 es6 => ?_)
      replace h := h s6 es6
      refine r_aload_n X (x_dr DX7_seatOf 21 rfl) 0 rfl rfl ?_
      refine cl7_runs X (k7_runs h) rfl ml_7_236 ⟨Nat.le_of_ble_eq_true rfl, Nat.le_of_ble_eq_true rfl⟩ (Nat.le_of_ble_eq_true rfl) (x_dr DX7_seatOf 22 rfl) (fun s7 h => ?_)
      refine r_aload_n X (x_dr DX7_seatOf 23 rfl) 0 rfl rfl ?_
      refine cl7_carriedNow X (k7_carriedNow h) rfl ml_7_260 ⟨Nat.le_of_ble_eq_true rfl, Nat.le_of_ble_eq_true rfl⟩ (Nat.le_of_ble_eq_true rfl) (x_dr DX7_seatOf 24 rfl) (fun v9 s8 h => ?_)
      refine r_istore X ([(7, .int v9), (0, .ref (ad 13 0 0)), (1, .int a1), (2, .int a2), (3, .int a3), (4, .int a4), (5, .int a5), (6, .int a6)]) (x_dr DX7_seatOf 25 rfl) (by decide) rfl ?_
      refine r_iload X (x_dr DX7_seatOf 26 rfl) 0 rfl ?_
      refine r_iload X (x_dr DX7_seatOf 27 rfl) 6 rfl ?_
      obtain ⟨j12, ej12, h⟩ := x_jn h
      have Jj12 : ∀ (v11 : Int32), j12 v11 → KK ad E (qI Q) 59 ([(0, .ref (ad 13 0 0)), (1, .int a1), (2, .int a2), (3, .int a3), (5, .int a5), (6, .int a6), (7, .int v9)]) [.int v11] s8 := by
        intro v11 h
        rw [ej12] at h
        refine r_istore X ([(4, .int v11), (0, .ref (ad 13 0 0)), (1, .int a1), (2, .int a2), (3, .int a3), (5, .int a5), (6, .int a6), (7, .int v9)]) (x_dr DX7_seatOf 32 rfl) (by decide) rfl ?_
        refine r_iload X (x_dr DX7_seatOf 33 rfl) 7 rfl ?_
        refine r_iload X (x_dr DX7_seatOf 34 rfl) 5 rfl ?_
        refine r_icmp_le X 73 (x_dr DX7_seatOf 35 rfl) (by decide) (fun c13 => ?_) (fun c13 => ?_)
        · replace h := h.1 c13
          refine r_iload X (x_dr DX7_seatOf 38 rfl) 5 rfl ?_
          refine r_istore X ([(5, .int a5), (4, .int v11), (0, .ref (ad 13 0 0)), (1, .int a1), (2, .int a2), (3, .int a3), (6, .int a6), (7, .int v9)]) (x_dr DX7_seatOf 39 rfl) (by decide) rfl ?_
          obtain ⟨v14, ev14⟩ : ∃ z : Int32, z = a6 + 1 := ⟨_, rfl⟩
          replace h := h v14 ev14
          refine r_iinc (v := v14) X ([(6, .int v14), (5, .int a5), (4, .int v11), (0, .ref (ad 13 0 0)), (1, .int a1), (2, .int a2), (3, .int a3), (7, .int v9)]) 6 (x_dr DX7_seatOf 40 rfl) rfl (by rw [ev14]; rfl) (by decide) rfl ?_
          refine r_goto X 20 (x_dr DX7_seatOf 41 rfl) (by decide) ?_
          refine r_norm X [3, 4, 5, 6, 2, 1, 0] ([(0, .ref (ad 13 0 0)), (1, .int a1), (2, .int a2), (3, .int a3), (4, .int v11), (5, .int a5), (6, .int v14)]) rfl ?_
          exact ih _ _ _ _ h kk
        · replace h := h.2 c13
          refine r_iload X (x_dr DX7_seatOf 36 rfl) 7 rfl ?_
          refine r_goto X 75 (x_dr DX7_seatOf 37 rfl) (by decide) ?_
          refine r_istore X ([(5, .int v9), (4, .int v11), (0, .ref (ad 13 0 0)), (1, .int a1), (2, .int a2), (3, .int a3), (6, .int a6), (7, .int v9)]) (x_dr DX7_seatOf 39 rfl) (by decide) rfl ?_
          obtain ⟨v15, ev15⟩ : ∃ z : Int32, z = a6 + 1 := ⟨_, rfl⟩
          replace h := h v15 ev15
          refine r_iinc (v := v15) X ([(6, .int v15), (5, .int v9), (4, .int v11), (0, .ref (ad 13 0 0)), (1, .int a1), (2, .int a2), (3, .int a3), (7, .int v9)]) 6 (x_dr DX7_seatOf 40 rfl) rfl (by rw [ev15]; rfl) (by decide) rfl ?_
          refine r_goto X 20 (x_dr DX7_seatOf 41 rfl) (by decide) ?_
          refine r_norm X [3, 4, 5, 6, 2, 1, 0] ([(0, .ref (ad 13 0 0)), (1, .int a1), (2, .int a2), (3, .int a3), (4, .int v11), (5, .int v9), (6, .int v15)]) rfl ?_
          exact ih _ _ _ _ h kk
      refine r_icmp_le X 57 (x_dr DX7_seatOf 28 rfl) (by decide) (fun c16 => ?_) (fun c16 => ?_)
      · replace h := h.1 c16
        refine r_iload X (x_dr DX7_seatOf 31 rfl) 5 rfl ?_
        refine r_norm X [1, 2, 3, 4, 6, 7, 0] ([(0, .ref (ad 13 0 0)), (1, .int a1), (2, .int a2), (3, .int a3), (5, .int a5), (6, .int a6), (7, .int v9)]) rfl ?_
        exact Jj12 _ h
      · replace h := h.2 c16
        refine r_iload X (x_dr DX7_seatOf 29 rfl) 7 rfl ?_
        refine r_goto X 59 (x_dr DX7_seatOf 30 rfl) (by decide) ?_
        refine r_norm X [1, 2, 3, 4, 6, 7, 0] ([(0, .ref (ad 13 0 0)), (1, .int a1), (2, .int a2), (3, .int a3), (5, .int a5), (6, .int a6), (7, .int v9)]) rfl ?_
        exact Jj12 _ h
set_option maxRecDepth 10000 in
theorem k7_seatOf {ad : xAd} {G : xG} {l : Launch} {a1 : Int32} {a2 : Int32} {σ : xSt} {Q : Int32 → xSt → Prop}  (h : d7_seatOf a1 a2 σ Q) : MC ad G l yX7_seatOf cX7_seatOf 8 (some .int) 7 155 [.ref (ad 13 0 0), .int a1, .int a2] σ (qI Q) := by
  unfold d7_seatOf at h
  refine x_MC [(0, .ref (ad 13 0 0)), (1, .int a1), (2, .int a2)] (by decide +kernel) rfl (Nat.le_of_ble_eq_true rfl) ?_
  intro E hG hl X
  replace X : FX ad E cX7_seatOf 8 RX7 (some .int) 7 155 := X
  refine r_aload_n X (x_dr DX7_seatOf 0 rfl) 0 rfl rfl ?_
  refine cl7_asTold X (k7_asTold h) rfl ml_7_233 ⟨Nat.le_of_ble_eq_true rfl, Nat.le_of_ble_eq_true rfl⟩ (Nat.le_of_ble_eq_true rfl) (x_dr DX7_seatOf 1 rfl) (fun s1 h => ?_)
  refine r_aload_n X (x_dr DX7_seatOf 2 rfl) 0 rfl rfl ?_
  refine gf_7_22 X rfl (x_dr DX7_seatOf 3 rfl) ?_
  refine r_iload_n X (x_dr DX7_seatOf 4 rfl) 1 rfl rfl ?_
  obtain ⟨b2, h⟩ := h
  refine r_iald X rfl rfl b2 (x_dr DX7_seatOf 5 rfl) ?_
  refine r_nmI (fun v3 ev3 => ?_)
  replace h := h v3 ev3
  refine r_istore_n X ([(3, .int v3), (0, .ref (ad 13 0 0)), (1, .int a1), (2, .int a2)]) (x_dr DX7_seatOf 6 rfl) rfl (by decide) rfl ?_
  refine r_iconst (v := (-1)) X (x_dr DX7_seatOf 7 rfl) (by decide) ?_
  refine r_istore X ([(4, .int (-1)), (3, .int v3), (0, .ref (ad 13 0 0)), (1, .int a1), (2, .int a2)]) (x_dr DX7_seatOf 8 rfl) (by decide) rfl ?_
  refine r_iconst (v := (-1)) X (x_dr DX7_seatOf 9 rfl) (by decide) ?_
  refine r_istore X ([(5, .int (-1)), (4, .int (-1)), (3, .int v3), (0, .ref (ad 13 0 0)), (1, .int a1), (2, .int a2)]) (x_dr DX7_seatOf 10 rfl) (by decide) rfl ?_
  refine r_iconst (v := 0) X (x_dr DX7_seatOf 11 rfl) (by decide) ?_
  refine r_istore X ([(6, .int 0), (5, .int (-1)), (4, .int (-1)), (3, .int v3), (0, .ref (ad 13 0 0)), (1, .int a1), (2, .int a2)]) (x_dr DX7_seatOf 12 rfl) (by decide) rfl ?_
  refine r_norm X [4, 5, 6, 3, 2, 1, 0] ([(0, .ref (ad 13 0 0)), (1, .int a1), (2, .int a2), (3, .int v3), (4, .int (-1)), (5, .int (-1)), (6, .int 0)]) rfl ?_
  refine w7_seatOf_L20 X  _ _ _ _ _ h (fun v18 v19 s17 h => ?_)
  refine r_aload_n X (x_dr DX7_seatOf 42 rfl) 0 rfl rfl ?_
  refine gf_7_22 X rfl (x_dr DX7_seatOf 43 rfl) ?_
  refine r_iload_n X (x_dr DX7_seatOf 44 rfl) 1 rfl rfl ?_
  refine r_iload_n X (x_dr DX7_seatOf 45 rfl) 3 rfl rfl ?_
  obtain ⟨b20, h⟩ := h
  refine r_iast X rfl rfl b20 (x_dr DX7_seatOf 46 rfl) ?_
  refine r_nmS (fun s21 es21 => ?_)
  replace h := h s21 es21
  refine r_iload_n X (x_dr DX7_seatOf 47 rfl) 2 rfl rfl ?_
  refine r_if_ne X 99 (x_dr DX7_seatOf 48 rfl) (by decide) (fun c22 => ?_) (fun c22 => ?_)
  · replace h := h.1 c22
    refine r_iload X (x_dr DX7_seatOf 51 rfl) 5 rfl ?_
    exact r_iret X rfl (x_dr DX7_seatOf 52 rfl) ⟨_, rfl, h⟩
  · replace h := h.2 c22
    refine r_iload X (x_dr DX7_seatOf 49 rfl) 4 rfl ?_
    refine r_goto X 101 (x_dr DX7_seatOf 50 rfl) (by decide) ?_
    exact r_iret X rfl (x_dr DX7_seatOf 52 rfl) ⟨_, rfl, h⟩
set_option maxRecDepth 10000 in
theorem k7_seat {ad : xAd} {G : xG} {l : Launch} {a1 : Int32} {a2 : Int32} {σ : xSt} {Q : Int32 → xSt → Prop}  (h : d7_seat a1 a2 σ Q) : MC ad G l yX7_seat cX7_seat 3 (some .int) 8 182 [.ref (ad 13 0 0), .int a1, .int a2] σ (qI Q) := by
  unfold d7_seat at h
  refine x_MC [(0, .ref (ad 13 0 0)), (1, .int a1), (2, .int a2)] (by decide +kernel) rfl (Nat.le_of_ble_eq_true rfl) ?_
  intro E hG hl X
  replace X : FX ad E cX7_seat 3 RX7 (some .int) 8 182 := X
  refine r_aload_n X (x_dr DX7_seat 0 rfl) 0 rfl rfl ?_
  refine r_iload_n X (x_dr DX7_seat 1 rfl) 1 rfl rfl ?_
  refine cl7_isMember X (k7_isMember h) rfl ml_7_160 ⟨Nat.le_of_ble_eq_true rfl, Nat.le_of_ble_eq_true rfl⟩ (Nat.le_of_ble_eq_true rfl) (x_dr DX7_seat 2 rfl) (fun v2 s1 zv2 h => ?_)
  refine r_if_eq X 26 (x_dr DX7_seat 3 rfl) (by decide) (fun c3 => ?_) (fun c3 => ?_)
  · replace h := h.1 c3
    refine r_bipush (v := (-2)) X (x_dr DX7_seat 14 rfl) (by decide) ?_
    exact r_iret X rfl (x_dr DX7_seat 15 rfl) ⟨_, rfl, h⟩
  · replace h := h.2 c3
    refine r_iload_n X (x_dr DX7_seat 4 rfl) 2 rfl rfl ?_
    refine r_iconst (v := 0) X (x_dr DX7_seat 5 rfl) (by decide) ?_
    refine r_iconst (v := 1) X (x_dr DX7_seat 6 rfl) (by decide) ?_
    refine cl7_in X (k7_in h) ml_7_115 ⟨Nat.le_of_ble_eq_true rfl, Nat.le_of_ble_eq_true rfl⟩ (Nat.le_of_ble_eq_true rfl) (x_dr DX7_seat 7 rfl) (fun v5 s4 zv5 h => ?_)
    refine r_if_eq X 26 (x_dr DX7_seat 8 rfl) (by decide) (fun c6 => ?_) (fun c6 => ?_)
    · replace h := h.1 c6
      refine r_bipush (v := (-2)) X (x_dr DX7_seat 14 rfl) (by decide) ?_
      exact r_iret X rfl (x_dr DX7_seat 15 rfl) ⟨_, rfl, h⟩
    · replace h := h.2 c6
      refine r_aload_n X (x_dr DX7_seat 9 rfl) 0 rfl rfl ?_
      refine r_iload_n X (x_dr DX7_seat 10 rfl) 1 rfl rfl ?_
      refine r_iload_n X (x_dr DX7_seat 11 rfl) 2 rfl rfl ?_
      refine cl7_seatOf X (k7_seatOf h) rfl ml_7_275 ⟨Nat.le_of_ble_eq_true rfl, Nat.le_of_ble_eq_true rfl⟩ (Nat.le_of_ble_eq_true rfl) (x_dr DX7_seat 12 rfl) (fun v8 s7 h => ?_)
      refine r_goto X 28 (x_dr DX7_seat 13 rfl) (by decide) ?_
      exact r_iret X rfl (x_dr DX7_seat 15 rfl) ⟨_, rfl, h⟩
set_option maxRecDepth 10000 in
theorem k7_more {ad : xAd} {G : xG} {l : Launch} {a1 : Int32} {a2 : Int32} {a3 : Int32} {σ : xSt} {Q : xSt → Prop}  (h : d7_more a1 a2 a3 σ Q) : MC ad G l yX7_more cX7_more 4 none 7 155 [.ref (ad 13 0 0), .int a1, .int a2, .int a3] σ (qV Q) := by
  unfold d7_more at h
  refine x_MC [(0, .ref (ad 13 0 0)), (1, .int a1), (2, .int a2), (3, .int a3)] (by decide +kernel) rfl (Nat.le_of_ble_eq_true rfl) ?_
  intro E hG hl X
  replace X : FX ad E cX7_more 4 RX7 none 7 155 := X
  refine r_aload_n X (x_dr DX7_more 0 rfl) 0 rfl rfl ?_
  refine r_aload_n X (x_dr DX7_more 1 rfl) 0 rfl rfl ?_
  refine gf_7_169 X rfl (x_dr DX7_more 2 rfl) ?_
  refine r_iconst (v := 1) X (x_dr DX7_more 3 rfl) (by decide) ?_
  refine r_iadd X (x_dr DX7_more 4 rfl) ?_
  refine pf_7_182 X rfl (x_dr DX7_more 5 rfl) ?_
  refine r_nmS (fun s1 es1 => ?_)
  replace h := h s1 es1
  refine r_aload_n X (x_dr DX7_more 6 rfl) 0 rfl rfl ?_
  refine gf_7_37 X rfl (x_dr DX7_more 7 rfl) ?_
  refine r_aload_n X (x_dr DX7_more 8 rfl) 0 rfl rfl ?_
  refine gf_7_169 X rfl (x_dr DX7_more 9 rfl) ?_
  refine r_iload_n X (x_dr DX7_more 10 rfl) 1 rfl rfl ?_
  obtain ⟨b2, h⟩ := h
  refine r_iast X rfl rfl b2 (x_dr DX7_more 11 rfl) ?_
  refine r_nmS (fun s3 es3 => ?_)
  replace h := h s3 es3
  refine r_aload_n X (x_dr DX7_more 12 rfl) 0 rfl rfl ?_
  refine gf_7_40 X rfl (x_dr DX7_more 13 rfl) ?_
  refine r_aload_n X (x_dr DX7_more 14 rfl) 0 rfl rfl ?_
  refine gf_7_169 X rfl (x_dr DX7_more 15 rfl) ?_
  refine r_iload_n X (x_dr DX7_more 16 rfl) 2 rfl rfl ?_
  obtain ⟨b4, h⟩ := h
  refine r_iast X rfl rfl b4 (x_dr DX7_more 17 rfl) ?_
  refine r_nmS (fun s5 es5 => ?_)
  replace h := h s5 es5
  refine r_aload_n X (x_dr DX7_more 18 rfl) 0 rfl rfl ?_
  refine gf_7_43 X rfl (x_dr DX7_more 19 rfl) ?_
  refine r_aload_n X (x_dr DX7_more 20 rfl) 0 rfl rfl ?_
  refine gf_7_169 X rfl (x_dr DX7_more 21 rfl) ?_
  refine r_iload_n X (x_dr DX7_more 22 rfl) 3 rfl rfl ?_
  obtain ⟨b6, h⟩ := h
  refine r_iast X rfl rfl b6 (x_dr DX7_more 23 rfl) ?_
  refine r_nmS (fun s7 es7 => ?_)
  replace h := h s7 es7
  refine r_aload_n X (x_dr DX7_more 24 rfl) 0 rfl rfl ?_
  refine cl7_runs X (k7_runs h) rfl ml_7_236 ⟨Nat.le_of_ble_eq_true rfl, Nat.le_of_ble_eq_true rfl⟩ (Nat.le_of_ble_eq_true rfl) (x_dr DX7_more 25 rfl) (fun s8 h => ?_)
  exact r_vret X rfl (x_dr DX7_more 26 rfl) ⟨rfl, h⟩
set_option maxRecDepth 10000 in
theorem w7_dustOf_L12 {ad : xAd} {E : xE} (X : FX ad E cX7_dustOf 7 RX7 (some .int) 8 178)   {a1 : Int32} {a2 : Int32} {K : Int32 → Int32 → xSt → Prop} {Q : Int32 → xSt → Prop} : ∀ (n : Nat) (a3 : Int32) (a4 : Int32) (a5 : Int32) (σ : xSt), d7_dustOf_L12 a1 a2 K Q n a3 a4 a5 σ → (∀ (a3 : Int32) (a4 : Int32) (s : xSt), K a3 a4 s → KK ad E (qI Q) 69 ([(2, .int a2), (3, .int a3), (4, .int a4)]) [] s) → KK ad E (qI Q) 12 ([(0, .ref (ad 13 0 0)), (1, .int a1), (2, .int a2), (3, .int a3), (4, .int a4), (5, .int a5)]) [] σ := by
  intro n
  induction n with
  | zero => intro a3 a4 a5 σ h kk; exact h.elim
  | succ n ih =>
    intro a3 a4 a5 σ h kk
    rw [d7_dustOf_L12] at h
    refine r_iload X (x_dr DX7_dustOf 8 rfl) 5 rfl ?_
    refine r_bipush (v := 12) X (x_dr DX7_dustOf 9 rfl) (by decide) ?_
    refine r_icmp_ge X 69 (x_dr DX7_dustOf 10 rfl) (by decide) (fun c2 => ?_) (fun c2 => ?_)
    · replace h := h.1 c2
      refine r_norm X [2, 3, 4] ([(2, .int a2), (3, .int a3), (4, .int a4)]) rfl ?_
      exact kk _ _ _ h
    · replace h := h.2 c2
      refine r_aload_n X (x_dr DX7_dustOf 11 rfl) 0 rfl rfl ?_
      refine r_iconst (v := 1) X (x_dr DX7_dustOf 12 rfl) (by decide) ?_
      refine r_iload_n X (x_dr DX7_dustOf 13 rfl) 1 rfl rfl ?_
      refine r_iload X (x_dr DX7_dustOf 14 rfl) 5 rfl ?_
      refine cl7_more X (k7_more h) rfl ml_7_278 ⟨Nat.le_of_ble_eq_true rfl, Nat.le_of_ble_eq_true rfl⟩ (Nat.le_of_ble_eq_true rfl) (x_dr DX7_dustOf 15 rfl) (fun s3 h => ?_)
      refine r_aload_n X (x_dr DX7_dustOf 16 rfl) 0 rfl rfl ?_
      refine cl7_carriedNow X (k7_carriedNow h) rfl ml_7_260 ⟨Nat.le_of_ble_eq_true rfl, Nat.le_of_ble_eq_true rfl⟩ (Nat.le_of_ble_eq_true rfl) (x_dr DX7_dustOf 17 rfl) (fun v5 s4 h => ?_)
      refine r_istore X ([(6, .int v5), (0, .ref (ad 13 0 0)), (1, .int a1), (2, .int a2), (3, .int a3), (4, .int a4), (5, .int a5)]) (x_dr DX7_dustOf 18 rfl) (by decide) rfl ?_
      refine r_iload X (x_dr DX7_dustOf 19 rfl) 0 rfl ?_
      refine r_iload X (x_dr DX7_dustOf 20 rfl) 5 rfl ?_
      obtain ⟨j8, ej8, h⟩ := x_jn h
      have Jj8 : ∀ (v7 : Int32), j8 v7 → KK ad E (qI Q) 46 ([(0, .ref (ad 13 0 0)), (1, .int a1), (2, .int a2), (4, .int a4), (5, .int a5), (6, .int v5)]) [.int v7] s4 := by
        intro v7 h
        rw [ej8] at h
        refine r_istore_n X ([(3, .int v7), (0, .ref (ad 13 0 0)), (1, .int a1), (2, .int a2), (4, .int a4), (5, .int a5), (6, .int v5)]) (x_dr DX7_dustOf 25 rfl) rfl (by decide) rfl ?_
        refine r_iload X (x_dr DX7_dustOf 26 rfl) 6 rfl ?_
        refine r_iload X (x_dr DX7_dustOf 27 rfl) 4 rfl ?_
        refine r_icmp_le X 59 (x_dr DX7_dustOf 28 rfl) (by decide) (fun c9 => ?_) (fun c9 => ?_)
        · replace h := h.1 c9
          refine r_iload X (x_dr DX7_dustOf 31 rfl) 4 rfl ?_
          refine r_istore X ([(4, .int a4), (3, .int v7), (0, .ref (ad 13 0 0)), (1, .int a1), (2, .int a2), (5, .int a5), (6, .int v5)]) (x_dr DX7_dustOf 32 rfl) (by decide) rfl ?_
          obtain ⟨v10, ev10⟩ : ∃ z : Int32, z = a5 + 1 := ⟨_, rfl⟩
          replace h := h v10 ev10
          refine r_iinc (v := v10) X ([(5, .int v10), (4, .int a4), (3, .int v7), (0, .ref (ad 13 0 0)), (1, .int a1), (2, .int a2), (6, .int v5)]) 5 (x_dr DX7_dustOf 33 rfl) rfl (by rw [ev10]; rfl) (by decide) rfl ?_
          refine r_goto X 12 (x_dr DX7_dustOf 34 rfl) (by decide) ?_
          refine r_norm X [3, 4, 5, 2, 1, 0] ([(0, .ref (ad 13 0 0)), (1, .int a1), (2, .int a2), (3, .int v7), (4, .int a4), (5, .int v10)]) rfl ?_
          exact ih _ _ _ _ h kk
        · replace h := h.2 c9
          refine r_iload X (x_dr DX7_dustOf 29 rfl) 6 rfl ?_
          refine r_goto X 61 (x_dr DX7_dustOf 30 rfl) (by decide) ?_
          refine r_istore X ([(4, .int v5), (3, .int v7), (0, .ref (ad 13 0 0)), (1, .int a1), (2, .int a2), (5, .int a5), (6, .int v5)]) (x_dr DX7_dustOf 32 rfl) (by decide) rfl ?_
          obtain ⟨v11, ev11⟩ : ∃ z : Int32, z = a5 + 1 := ⟨_, rfl⟩
          replace h := h v11 ev11
          refine r_iinc (v := v11) X ([(5, .int v11), (4, .int v5), (3, .int v7), (0, .ref (ad 13 0 0)), (1, .int a1), (2, .int a2), (6, .int v5)]) 5 (x_dr DX7_dustOf 33 rfl) rfl (by rw [ev11]; rfl) (by decide) rfl ?_
          refine r_goto X 12 (x_dr DX7_dustOf 34 rfl) (by decide) ?_
          refine r_norm X [3, 4, 5, 2, 1, 0] ([(0, .ref (ad 13 0 0)), (1, .int a1), (2, .int a2), (3, .int v7), (4, .int v5), (5, .int v11)]) rfl ?_
          exact ih _ _ _ _ h kk
      refine r_icmp_le X 45 (x_dr DX7_dustOf 21 rfl) (by decide) (fun c12 => ?_) (fun c12 => ?_)
      · replace h := h.1 c12
        refine r_iload_n X (x_dr DX7_dustOf 24 rfl) 4 rfl rfl ?_
        refine r_norm X [1, 2, 3, 5, 6, 0] ([(0, .ref (ad 13 0 0)), (1, .int a1), (2, .int a2), (4, .int a4), (5, .int a5), (6, .int v5)]) rfl ?_
        exact Jj8 _ h
      · replace h := h.2 c12
        refine r_iload X (x_dr DX7_dustOf 22 rfl) 6 rfl ?_
        refine r_goto X 46 (x_dr DX7_dustOf 23 rfl) (by decide) ?_
        refine r_norm X [1, 2, 3, 5, 6, 0] ([(0, .ref (ad 13 0 0)), (1, .int a1), (2, .int a2), (4, .int a4), (5, .int a5), (6, .int v5)]) rfl ?_
        exact Jj8 _ h
set_option maxRecDepth 10000 in
theorem k7_dustOf {ad : xAd} {G : xG} {l : Launch} {a1 : Int32} {a2 : Int32} {σ : xSt} {Q : Int32 → xSt → Prop}  (h : d7_dustOf a1 a2 σ Q) : MC ad G l yX7_dustOf cX7_dustOf 7 (some .int) 8 178 [.ref (ad 13 0 0), .int a1, .int a2] σ (qI Q) := by
  unfold d7_dustOf at h
  refine x_MC [(0, .ref (ad 13 0 0)), (1, .int a1), (2, .int a2)] (by decide +kernel) rfl (Nat.le_of_ble_eq_true rfl) ?_
  intro E hG hl X
  replace X : FX ad E cX7_dustOf 7 RX7 (some .int) 8 178 := X
  refine r_aload_n X (x_dr DX7_dustOf 0 rfl) 0 rfl rfl ?_
  refine cl7_asTold X (k7_asTold h) rfl ml_7_233 ⟨Nat.le_of_ble_eq_true rfl, Nat.le_of_ble_eq_true rfl⟩ (Nat.le_of_ble_eq_true rfl) (x_dr DX7_dustOf 1 rfl) (fun s1 h => ?_)
  refine r_iconst (v := (-1)) X (x_dr DX7_dustOf 2 rfl) (by decide) ?_
  refine r_istore_n X ([(3, .int (-1)), (0, .ref (ad 13 0 0)), (1, .int a1), (2, .int a2)]) (x_dr DX7_dustOf 3 rfl) rfl (by decide) rfl ?_
  refine r_iconst (v := (-1)) X (x_dr DX7_dustOf 4 rfl) (by decide) ?_
  refine r_istore X ([(4, .int (-1)), (3, .int (-1)), (0, .ref (ad 13 0 0)), (1, .int a1), (2, .int a2)]) (x_dr DX7_dustOf 5 rfl) (by decide) rfl ?_
  refine r_iconst (v := 0) X (x_dr DX7_dustOf 6 rfl) (by decide) ?_
  refine r_istore X ([(5, .int 0), (4, .int (-1)), (3, .int (-1)), (0, .ref (ad 13 0 0)), (1, .int a1), (2, .int a2)]) (x_dr DX7_dustOf 7 rfl) (by decide) rfl ?_
  refine r_norm X [3, 4, 5, 2, 1, 0] ([(0, .ref (ad 13 0 0)), (1, .int a1), (2, .int a2), (3, .int (-1)), (4, .int (-1)), (5, .int 0)]) rfl ?_
  refine w7_dustOf_L12 X  _ _ _ _ _ h (fun v14 v15 s13 h => ?_)
  refine r_iload_n X (x_dr DX7_dustOf 35 rfl) 0 rfl rfl ?_
  refine r_if_ne X 77 (x_dr DX7_dustOf 36 rfl) (by decide) (fun c16 => ?_) (fun c16 => ?_)
  · replace h := h.1 c16
    refine r_iload X (x_dr DX7_dustOf 39 rfl) 2 rfl ?_
    exact r_iret X rfl (x_dr DX7_dustOf 40 rfl) ⟨_, rfl, h⟩
  · replace h := h.2 c16
    refine r_iload_n X (x_dr DX7_dustOf 37 rfl) 1 rfl rfl ?_
    refine r_goto X 79 (x_dr DX7_dustOf 38 rfl) (by decide) ?_
    exact r_iret X rfl (x_dr DX7_dustOf 40 rfl) ⟨_, rfl, h⟩
set_option maxRecDepth 10000 in
theorem k7_dust {ad : xAd} {G : xG} {l : Launch} {a1 : Int32} {a2 : Int32} {σ : xSt} {Q : Int32 → xSt → Prop}  (h : d7_dust a1 a2 σ Q) : MC ad G l yX7_dust cX7_dust 3 (some .int) 9 204 [.ref (ad 13 0 0), .int a1, .int a2] σ (qI Q) := by
  unfold d7_dust at h
  refine x_MC [(0, .ref (ad 13 0 0)), (1, .int a1), (2, .int a2)] (by decide +kernel) rfl (Nat.le_of_ble_eq_true rfl) ?_
  intro E hG hl X
  replace X : FX ad E cX7_dust 3 RX7 (some .int) 9 204 := X
  refine r_iload_n X (x_dr DX7_dust 0 rfl) 1 rfl rfl ?_
  refine cl7_isHour X (k7_isHour h) ml_7_166 ⟨Nat.le_of_ble_eq_true rfl, Nat.le_of_ble_eq_true rfl⟩ (Nat.le_of_ble_eq_true rfl) (x_dr DX7_dust 1 rfl) (fun v2 s1 zv2 h => ?_)
  refine r_if_eq X 25 (x_dr DX7_dust 2 rfl) (by decide) (fun c3 => ?_) (fun c3 => ?_)
  · replace h := h.1 c3
    refine r_bipush (v := (-2)) X (x_dr DX7_dust 13 rfl) (by decide) ?_
    exact r_iret X rfl (x_dr DX7_dust 14 rfl) ⟨_, rfl, h⟩
  · replace h := h.2 c3
    refine r_iload_n X (x_dr DX7_dust 3 rfl) 2 rfl rfl ?_
    refine r_iconst (v := 0) X (x_dr DX7_dust 4 rfl) (by decide) ?_
    refine r_iconst (v := 1) X (x_dr DX7_dust 5 rfl) (by decide) ?_
    refine cl7_in X (k7_in h) ml_7_115 ⟨Nat.le_of_ble_eq_true rfl, Nat.le_of_ble_eq_true rfl⟩ (Nat.le_of_ble_eq_true rfl) (x_dr DX7_dust 6 rfl) (fun v5 s4 zv5 h => ?_)
    refine r_if_eq X 25 (x_dr DX7_dust 7 rfl) (by decide) (fun c6 => ?_) (fun c6 => ?_)
    · replace h := h.1 c6
      refine r_bipush (v := (-2)) X (x_dr DX7_dust 13 rfl) (by decide) ?_
      exact r_iret X rfl (x_dr DX7_dust 14 rfl) ⟨_, rfl, h⟩
    · replace h := h.2 c6
      refine r_aload_n X (x_dr DX7_dust 8 rfl) 0 rfl rfl ?_
      refine r_iload_n X (x_dr DX7_dust 9 rfl) 1 rfl rfl ?_
      refine r_iload_n X (x_dr DX7_dust 10 rfl) 2 rfl rfl ?_
      refine cl7_dustOf X (k7_dustOf h) rfl ml_7_282 ⟨Nat.le_of_ble_eq_true rfl, Nat.le_of_ble_eq_true rfl⟩ (Nat.le_of_ble_eq_true rfl) (x_dr DX7_dust 11 rfl) (fun v8 s7 h => ?_)
      refine r_goto X 27 (x_dr DX7_dust 12 rfl) (by decide) ?_
      exact r_iret X rfl (x_dr DX7_dust 14 rfl) ⟨_, rfl, h⟩
set_option maxRecDepth 10000 in
theorem w7_boyOf_L11 {ad : xAd} {E : xE} (X : FX ad E cX7_boyOf 6 RX7 (some .int) 8 178)   {a1 : Int32} {K : Int32 → Int32 → xSt → Prop} {Q : Int32 → xSt → Prop} : ∀ (n : Nat) (a2 : Int32) (a3 : Int32) (a4 : Int32) (σ : xSt), d7_boyOf_L11 a1 K Q n a2 a3 a4 σ → (∀ (a2 : Int32) (a3 : Int32) (s : xSt), K a2 a3 s → KK ad E (qI Q) 64 ([(1, .int a1), (2, .int a2), (3, .int a3)]) [] s) → KK ad E (qI Q) 11 ([(0, .ref (ad 13 0 0)), (1, .int a1), (2, .int a2), (3, .int a3), (4, .int a4)]) [] σ := by
  intro n
  induction n with
  | zero => intro a2 a3 a4 σ h kk; exact h.elim
  | succ n ih =>
    intro a2 a3 a4 σ h kk
    rw [d7_boyOf_L11] at h
    refine r_iload X (x_dr DX7_boyOf 8 rfl) 4 rfl ?_
    refine r_bipush (v := 20) X (x_dr DX7_boyOf 9 rfl) (by decide) ?_
    refine r_icmp_ge X 64 (x_dr DX7_boyOf 10 rfl) (by decide) (fun c2 => ?_) (fun c2 => ?_)
    · replace h := h.1 c2
      refine r_norm X [1, 2, 3] ([(1, .int a1), (2, .int a2), (3, .int a3)]) rfl ?_
      exact kk _ _ _ h
    · replace h := h.2 c2
      refine r_aload_n X (x_dr DX7_boyOf 11 rfl) 0 rfl rfl ?_
      refine r_iconst (v := 0) X (x_dr DX7_boyOf 12 rfl) (by decide) ?_
      refine r_iload X (x_dr DX7_boyOf 13 rfl) 4 rfl ?_
      refine r_iconst (v := 0) X (x_dr DX7_boyOf 14 rfl) (by decide) ?_
      refine cl7_more X (k7_more h) rfl ml_7_278 ⟨Nat.le_of_ble_eq_true rfl, Nat.le_of_ble_eq_true rfl⟩ (Nat.le_of_ble_eq_true rfl) (x_dr DX7_boyOf 15 rfl) (fun s3 h => ?_)
      refine r_aload_n X (x_dr DX7_boyOf 16 rfl) 0 rfl rfl ?_
      refine cl7_governmentsNow X (k7_governmentsNow h) rfl ml_7_254 ⟨Nat.le_of_ble_eq_true rfl, Nat.le_of_ble_eq_true rfl⟩ (Nat.le_of_ble_eq_true rfl) (x_dr DX7_boyOf 17 rfl) (fun v5 s4 h => ?_)
      refine r_istore X ([(5, .int v5), (0, .ref (ad 13 0 0)), (1, .int a1), (2, .int a2), (3, .int a3), (4, .int a4)]) (x_dr DX7_boyOf 18 rfl) (by decide) rfl ?_
      refine r_iload X (x_dr DX7_boyOf 19 rfl) 0 rfl ?_
      refine r_iload_n X (x_dr DX7_boyOf 20 rfl) 4 rfl rfl ?_
      obtain ⟨j8, ej8, h⟩ := x_jn h
      have Jj8 : ∀ (v7 : Int32), j8 v7 → KK ad E (qI Q) 44 ([(0, .ref (ad 13 0 0)), (1, .int a1), (3, .int a3), (4, .int a4), (5, .int v5)]) [.int v7] s4 := by
        intro v7 h
        rw [ej8] at h
        refine r_istore_n X ([(2, .int v7), (0, .ref (ad 13 0 0)), (1, .int a1), (3, .int a3), (4, .int a4), (5, .int v5)]) (x_dr DX7_boyOf 25 rfl) rfl (by decide) rfl ?_
        refine r_iload X (x_dr DX7_boyOf 26 rfl) 5 rfl ?_
        refine r_iload_n X (x_dr DX7_boyOf 27 rfl) 3 rfl rfl ?_
        refine r_icmp_le X 56 (x_dr DX7_boyOf 28 rfl) (by decide) (fun c9 => ?_) (fun c9 => ?_)
        · replace h := h.1 c9
          refine r_iload_n X (x_dr DX7_boyOf 31 rfl) 3 rfl rfl ?_
          refine r_istore_n X ([(3, .int a3), (2, .int v7), (0, .ref (ad 13 0 0)), (1, .int a1), (4, .int a4), (5, .int v5)]) (x_dr DX7_boyOf 32 rfl) rfl (by decide) rfl ?_
          obtain ⟨v10, ev10⟩ : ∃ z : Int32, z = a4 + 1 := ⟨_, rfl⟩
          replace h := h v10 ev10
          refine r_iinc (v := v10) X ([(4, .int v10), (3, .int a3), (2, .int v7), (0, .ref (ad 13 0 0)), (1, .int a1), (5, .int v5)]) 4 (x_dr DX7_boyOf 33 rfl) rfl (by rw [ev10]; rfl) (by decide) rfl ?_
          refine r_goto X 11 (x_dr DX7_boyOf 34 rfl) (by decide) ?_
          refine r_norm X [3, 4, 2, 1, 0] ([(0, .ref (ad 13 0 0)), (1, .int a1), (2, .int v7), (3, .int a3), (4, .int v10)]) rfl ?_
          exact ih _ _ _ _ h kk
        · replace h := h.2 c9
          refine r_iload X (x_dr DX7_boyOf 29 rfl) 5 rfl ?_
          refine r_goto X 57 (x_dr DX7_boyOf 30 rfl) (by decide) ?_
          refine r_istore_n X ([(3, .int v5), (2, .int v7), (0, .ref (ad 13 0 0)), (1, .int a1), (4, .int a4), (5, .int v5)]) (x_dr DX7_boyOf 32 rfl) rfl (by decide) rfl ?_
          obtain ⟨v11, ev11⟩ : ∃ z : Int32, z = a4 + 1 := ⟨_, rfl⟩
          replace h := h v11 ev11
          refine r_iinc (v := v11) X ([(4, .int v11), (3, .int v5), (2, .int v7), (0, .ref (ad 13 0 0)), (1, .int a1), (5, .int v5)]) 4 (x_dr DX7_boyOf 33 rfl) rfl (by rw [ev11]; rfl) (by decide) rfl ?_
          refine r_goto X 11 (x_dr DX7_boyOf 34 rfl) (by decide) ?_
          refine r_norm X [3, 4, 2, 1, 0] ([(0, .ref (ad 13 0 0)), (1, .int a1), (2, .int v7), (3, .int v5), (4, .int v11)]) rfl ?_
          exact ih _ _ _ _ h kk
      refine r_icmp_le X 43 (x_dr DX7_boyOf 21 rfl) (by decide) (fun c12 => ?_) (fun c12 => ?_)
      · replace h := h.1 c12
        refine r_iload_n X (x_dr DX7_boyOf 24 rfl) 3 rfl rfl ?_
        refine r_norm X [1, 2, 4, 5, 0] ([(0, .ref (ad 13 0 0)), (1, .int a1), (3, .int a3), (4, .int a4), (5, .int v5)]) rfl ?_
        exact Jj8 _ h
      · replace h := h.2 c12
        refine r_iload X (x_dr DX7_boyOf 22 rfl) 5 rfl ?_
        refine r_goto X 44 (x_dr DX7_boyOf 23 rfl) (by decide) ?_
        refine r_norm X [1, 2, 4, 5, 0] ([(0, .ref (ad 13 0 0)), (1, .int a1), (3, .int a3), (4, .int a4), (5, .int v5)]) rfl ?_
        exact Jj8 _ h
set_option maxRecDepth 10000 in
theorem k7_boyOf {ad : xAd} {G : xG} {l : Launch} {a1 : Int32} {σ : xSt} {Q : Int32 → xSt → Prop}  (h : d7_boyOf a1 σ Q) : MC ad G l yX7_boyOf cX7_boyOf 6 (some .int) 8 178 [.ref (ad 13 0 0), .int a1] σ (qI Q) := by
  unfold d7_boyOf at h
  refine x_MC [(0, .ref (ad 13 0 0)), (1, .int a1)] (by decide +kernel) rfl (Nat.le_of_ble_eq_true rfl) ?_
  intro E hG hl X
  replace X : FX ad E cX7_boyOf 6 RX7 (some .int) 8 178 := X
  refine r_aload_n X (x_dr DX7_boyOf 0 rfl) 0 rfl rfl ?_
  refine cl7_asTold X (k7_asTold h) rfl ml_7_233 ⟨Nat.le_of_ble_eq_true rfl, Nat.le_of_ble_eq_true rfl⟩ (Nat.le_of_ble_eq_true rfl) (x_dr DX7_boyOf 1 rfl) (fun s1 h => ?_)
  refine r_iconst (v := (-1)) X (x_dr DX7_boyOf 2 rfl) (by decide) ?_
  refine r_istore_n X ([(2, .int (-1)), (0, .ref (ad 13 0 0)), (1, .int a1)]) (x_dr DX7_boyOf 3 rfl) rfl (by decide) rfl ?_
  refine r_iconst (v := (-1)) X (x_dr DX7_boyOf 4 rfl) (by decide) ?_
  refine r_istore_n X ([(3, .int (-1)), (2, .int (-1)), (0, .ref (ad 13 0 0)), (1, .int a1)]) (x_dr DX7_boyOf 5 rfl) rfl (by decide) rfl ?_
  refine r_iconst (v := 0) X (x_dr DX7_boyOf 6 rfl) (by decide) ?_
  refine r_istore X ([(4, .int 0), (3, .int (-1)), (2, .int (-1)), (0, .ref (ad 13 0 0)), (1, .int a1)]) (x_dr DX7_boyOf 7 rfl) (by decide) rfl ?_
  refine r_norm X [3, 4, 2, 1, 0] ([(0, .ref (ad 13 0 0)), (1, .int a1), (2, .int (-1)), (3, .int (-1)), (4, .int 0)]) rfl ?_
  refine w7_boyOf_L11 X  _ _ _ _ _ h (fun v14 v15 s13 h => ?_)
  refine r_iload_n X (x_dr DX7_boyOf 35 rfl) 0 rfl rfl ?_
  refine r_if_ne X 72 (x_dr DX7_boyOf 36 rfl) (by decide) (fun c16 => ?_) (fun c16 => ?_)
  · replace h := h.1 c16
    refine r_iload_n X (x_dr DX7_boyOf 39 rfl) 2 rfl rfl ?_
    exact r_iret X rfl (x_dr DX7_boyOf 40 rfl) ⟨_, rfl, h⟩
  · replace h := h.2 c16
    refine r_iload_n X (x_dr DX7_boyOf 37 rfl) 1 rfl rfl ?_
    refine r_goto X 73 (x_dr DX7_boyOf 38 rfl) (by decide) ?_
    exact r_iret X rfl (x_dr DX7_boyOf 40 rfl) ⟨_, rfl, h⟩
set_option maxRecDepth 10000 in
theorem k7_boy {ad : xAd} {G : xG} {l : Launch} {a1 : Int32} {σ : xSt} {Q : Int32 → xSt → Prop}  (h : d7_boy a1 σ Q) : MC ad G l yX7_boy cX7_boy 2 (some .int) 9 203 [.ref (ad 13 0 0), .int a1] σ (qI Q) := by
  unfold d7_boy at h
  refine x_MC [(0, .ref (ad 13 0 0)), (1, .int a1)] (by decide +kernel) rfl (Nat.le_of_ble_eq_true rfl) ?_
  intro E hG hl X
  replace X : FX ad E cX7_boy 2 RX7 (some .int) 9 203 := X
  refine r_iload_n X (x_dr DX7_boy 0 rfl) 1 rfl rfl ?_
  refine r_iconst (v := 0) X (x_dr DX7_boy 1 rfl) (by decide) ?_
  refine r_iconst (v := 1) X (x_dr DX7_boy 2 rfl) (by decide) ?_
  refine cl7_in X (k7_in h) ml_7_115 ⟨Nat.le_of_ble_eq_true rfl, Nat.le_of_ble_eq_true rfl⟩ (Nat.le_of_ble_eq_true rfl) (x_dr DX7_boy 3 rfl) (fun v2 s1 zv2 h => ?_)
  refine r_if_eq X 17 (x_dr DX7_boy 4 rfl) (by decide) (fun c3 => ?_) (fun c3 => ?_)
  · replace h := h.1 c3
    refine r_bipush (v := (-2)) X (x_dr DX7_boy 9 rfl) (by decide) ?_
    exact r_iret X rfl (x_dr DX7_boy 10 rfl) ⟨_, rfl, h⟩
  · replace h := h.2 c3
    refine r_aload_n X (x_dr DX7_boy 5 rfl) 0 rfl rfl ?_
    refine r_iload_n X (x_dr DX7_boy 6 rfl) 1 rfl rfl ?_
    refine cl7_boyOf X (k7_boyOf h) rfl ml_7_285 ⟨Nat.le_of_ble_eq_true rfl, Nat.le_of_ble_eq_true rfl⟩ (Nat.le_of_ble_eq_true rfl) (x_dr DX7_boy 7 rfl) (fun v5 s4 h => ?_)
    refine r_goto X 19 (x_dr DX7_boy 8 rfl) (by decide) ?_
    exact r_iret X rfl (x_dr DX7_boy 10 rfl) ⟨_, rfl, h⟩
set_option maxRecDepth 10000 in
theorem k7_isCalm {ad : xAd} {G : xG} {l : Launch} {a1 : Int32} {σ : xSt} {Q : Int32 → xSt → Prop}  (h : d7_isCalm a1 σ Q) : MC ad G l yX7_isCalm cX7_isCalm 2 (some .boolean) 7 155 [.ref (ad 13 0 0), .int a1] σ (qZ Q) := by
  unfold d7_isCalm at h
  refine x_MC [(0, .ref (ad 13 0 0)), (1, .int a1)] (by decide +kernel) rfl (Nat.le_of_ble_eq_true rfl) ?_
  intro E hG hl X
  replace X : FX ad E cX7_isCalm 2 RX7 (some .boolean) 7 155 := X
  refine r_aload_n X (x_dr DX7_isCalm 0 rfl) 0 rfl rfl ?_
  refine r_iload_n X (x_dr DX7_isCalm 1 rfl) 1 rfl rfl ?_
  refine pf_7_185 X rfl (x_dr DX7_isCalm 2 rfl) ?_
  refine r_nmS (fun s1 es1 => ?_)
  replace h := h s1 es1
  refine r_aload_n X (x_dr DX7_isCalm 3 rfl) 0 rfl rfl ?_
  refine cl7_runs X (k7_runs h) rfl ml_7_236 ⟨Nat.le_of_ble_eq_true rfl, Nat.le_of_ble_eq_true rfl⟩ (Nat.le_of_ble_eq_true rfl) (x_dr DX7_isCalm 4 rfl) (fun s2 h => ?_)
  refine r_aload_n X (x_dr DX7_isCalm 5 rfl) 0 rfl rfl ?_
  refine cl7_carriedNow X (k7_carriedNow h) rfl ml_7_260 ⟨Nat.le_of_ble_eq_true rfl, Nat.le_of_ble_eq_true rfl⟩ (Nat.le_of_ble_eq_true rfl) (x_dr DX7_isCalm 6 rfl) (fun v4 s3 h => ?_)
  refine r_bipush (v := 20) X (x_dr DX7_isCalm 7 rfl) (by decide) ?_
  refine r_icmp_ne X 22 (x_dr DX7_isCalm 8 rfl) (by decide) (fun c5 => ?_) (fun c5 => ?_)
  · replace h := h.1 c5
    refine r_iconst (v := 0) X (x_dr DX7_isCalm 11 rfl) (by decide) ?_
    exact r_zret X rfl (x_dr DX7_isCalm 12 rfl) (Or.inl rfl) ⟨_, rfl, (Or.inl rfl), h⟩
  · replace h := h.2 c5
    refine r_iconst (v := 1) X (x_dr DX7_isCalm 9 rfl) (by decide) ?_
    refine r_goto X 23 (x_dr DX7_isCalm 10 rfl) (by decide) ?_
    exact r_zret X rfl (x_dr DX7_isCalm 12 rfl) (Or.inr rfl) ⟨_, rfl, (Or.inr rfl), h⟩
set_option maxRecDepth 10000 in
theorem w7_calmBy_L16 {ad : xAd} {E : xE} (X : FX ad E cX7_calmBy 3 RX7 (some .int) 8 176)   {K : xSt → Prop} {Q : Int32 → xSt → Prop} : ∀ (n : Nat) (a1 : Int32) (σ : xSt), d7_calmBy_L16 K Q n a1 σ → (∀ (s : xSt), K  s → KK ad E (qI Q) 49 ([(0, .ref (ad 13 0 0))]) [] s) → KK ad E (qI Q) 16 ([(0, .ref (ad 13 0 0)), (1, .int a1)]) [] σ := by
  intro n
  induction n with
  | zero => intro a1 σ h kk; exact h.elim
  | succ n ih =>
    intro a1 σ h kk
    rw [d7_calmBy_L16] at h
    refine r_iload_n X (x_dr DX7_calmBy 10 rfl) 1 rfl rfl ?_
    refine r_aload_n X (x_dr DX7_calmBy 11 rfl) 0 rfl rfl ?_
    refine gf_7_169 X rfl (x_dr DX7_calmBy 12 rfl) ?_
    refine r_icmp_ge X 49 (x_dr DX7_calmBy 13 rfl) (by decide) (fun c5 => ?_) (fun c5 => ?_)
    · replace h := h.1 c5
      refine r_norm X [0] ([(0, .ref (ad 13 0 0))]) rfl ?_
      exact kk  _ h
    · replace h := h.2 c5
      refine r_aload_n X (x_dr DX7_calmBy 14 rfl) 0 rfl rfl ?_
      refine gf_7_82 X rfl (x_dr DX7_calmBy 15 rfl) ?_
      refine r_iconst (v := 0) X (x_dr DX7_calmBy 16 rfl) (by decide) ?_
      refine r_iload_n X (x_dr DX7_calmBy 17 rfl) 1 rfl rfl ?_
      obtain ⟨b6, h⟩ := h
      refine r_iast X rfl rfl b6 (x_dr DX7_calmBy 18 rfl) ?_
      refine r_nmS (fun s7 es7 => ?_)
      replace h := h s7 es7
      refine r_aload_n X (x_dr DX7_calmBy 19 rfl) 0 rfl rfl ?_
      refine r_iconst (v := 1) X (x_dr DX7_calmBy 20 rfl) (by decide) ?_
      refine r_iload_n X (x_dr DX7_calmBy 21 rfl) 1 rfl rfl ?_
      refine r_ishl X (x_dr DX7_calmBy 22 rfl) ?_
      refine cl7_isCalm X (k7_isCalm h) rfl ml_7_288 ⟨Nat.le_of_ble_eq_true rfl, Nat.le_of_ble_eq_true rfl⟩ (Nat.le_of_ble_eq_true rfl) (x_dr DX7_calmBy 23 rfl) (fun v9 s8 zv9 h => ?_)
      refine r_if_eq X 43 (x_dr DX7_calmBy 24 rfl) (by decide) (fun c10 => ?_) (fun c10 => ?_)
      · replace h := h.1 c10
        obtain ⟨v11, ev11⟩ : ∃ z : Int32, z = a1 + 1 := ⟨_, rfl⟩
        replace h := h v11 ev11
        refine r_iinc (v := v11) X ([(1, .int v11), (0, .ref (ad 13 0 0))]) 1 (x_dr DX7_calmBy 27 rfl) rfl (by rw [ev11]; rfl) (by decide) rfl ?_
        refine r_goto X 16 (x_dr DX7_calmBy 28 rfl) (by decide) ?_
        refine r_norm X [1, 0] ([(0, .ref (ad 13 0 0)), (1, .int v11)]) rfl ?_
        exact ih _ _ h kk
      · replace h := h.2 c10
        refine r_iconst (v := 1) X (x_dr DX7_calmBy 25 rfl) (by decide) ?_
        exact r_iret X rfl (x_dr DX7_calmBy 26 rfl) ⟨_, rfl, h⟩
set_option maxRecDepth 10000 in
theorem w7_calmBy_L63 {ad : xAd} {E : xE} (X : FX ad E cX7_calmBy 3 RX7 (some .int) 8 176)   {a1 : Int32} {K : xSt → Prop} {Q : Int32 → xSt → Prop} : ∀ (n : Nat) (a2 : Int32) (σ : xSt), d7_calmBy_L63 a1 K Q n a2 σ → (∀ (s : xSt), K  s → KK ad E (qI Q) 107 ([(0, .ref (ad 13 0 0)), (1, .int a1)]) [] s) → KK ad E (qI Q) 63 ([(0, .ref (ad 13 0 0)), (1, .int a1), (2, .int a2)]) [] σ := by
  intro n
  induction n with
  | zero => intro a2 σ h kk; exact h.elim
  | succ n ih =>
    intro a2 σ h kk
    rw [d7_calmBy_L63] at h
    refine r_iload_n X (x_dr DX7_calmBy 39 rfl) 2 rfl rfl ?_
    refine r_aload_n X (x_dr DX7_calmBy 40 rfl) 0 rfl rfl ?_
    refine gf_7_169 X rfl (x_dr DX7_calmBy 41 rfl) ?_
    refine r_icmp_ge X 107 (x_dr DX7_calmBy 42 rfl) (by decide) (fun c15 => ?_) (fun c15 => ?_)
    · replace h := h.1 c15
      refine r_norm X [0, 1] ([(0, .ref (ad 13 0 0)), (1, .int a1)]) rfl ?_
      exact kk  _ h
    · replace h := h.2 c15
      refine r_aload_n X (x_dr DX7_calmBy 43 rfl) 0 rfl rfl ?_
      refine gf_7_82 X rfl (x_dr DX7_calmBy 44 rfl) ?_
      refine r_iconst (v := 0) X (x_dr DX7_calmBy 45 rfl) (by decide) ?_
      refine r_iload_n X (x_dr DX7_calmBy 46 rfl) 1 rfl rfl ?_
      obtain ⟨b16, h⟩ := h
      refine r_iast X rfl rfl b16 (x_dr DX7_calmBy 47 rfl) ?_
      refine r_nmS (fun s17 es17 => ?_)
      replace h := h s17 es17
      refine r_aload_n X (x_dr DX7_calmBy 48 rfl) 0 rfl rfl ?_
      refine gf_7_82 X rfl (x_dr DX7_calmBy 49 rfl) ?_
      refine r_iconst (v := 1) X (x_dr DX7_calmBy 50 rfl) (by decide) ?_
      refine r_iload_n X (x_dr DX7_calmBy 51 rfl) 2 rfl rfl ?_
      obtain ⟨b18, h⟩ := h
      refine r_iast X rfl rfl b18 (x_dr DX7_calmBy 52 rfl) ?_
      refine r_nmS (fun s19 es19 => ?_)
      replace h := h s19 es19
      refine r_aload_n X (x_dr DX7_calmBy 53 rfl) 0 rfl rfl ?_
      refine r_iconst (v := 1) X (x_dr DX7_calmBy 54 rfl) (by decide) ?_
      refine r_iload_n X (x_dr DX7_calmBy 55 rfl) 1 rfl rfl ?_
      refine r_ishl X (x_dr DX7_calmBy 56 rfl) ?_
      refine r_iconst (v := 1) X (x_dr DX7_calmBy 57 rfl) (by decide) ?_
      refine r_iload_n X (x_dr DX7_calmBy 58 rfl) 2 rfl rfl ?_
      refine r_ishl X (x_dr DX7_calmBy 59 rfl) ?_
      refine r_ior X (x_dr DX7_calmBy 60 rfl) ?_
      refine cl7_isCalm X (k7_isCalm h) rfl ml_7_288 ⟨Nat.le_of_ble_eq_true rfl, Nat.le_of_ble_eq_true rfl⟩ (Nat.le_of_ble_eq_true rfl) (x_dr DX7_calmBy 61 rfl) (fun v21 s20 zv21 h => ?_)
      refine r_if_eq X 101 (x_dr DX7_calmBy 62 rfl) (by decide) (fun c22 => ?_) (fun c22 => ?_)
      · replace h := h.1 c22
        obtain ⟨v23, ev23⟩ : ∃ z : Int32, z = a2 + 1 := ⟨_, rfl⟩
        replace h := h v23 ev23
        refine r_iinc (v := v23) X ([(2, .int v23), (0, .ref (ad 13 0 0)), (1, .int a1)]) 2 (x_dr DX7_calmBy 65 rfl) rfl (by rw [ev23]; rfl) (by decide) rfl ?_
        refine r_goto X 63 (x_dr DX7_calmBy 66 rfl) (by decide) ?_
        refine r_norm X [1, 2, 0] ([(0, .ref (ad 13 0 0)), (1, .int a1), (2, .int v23)]) rfl ?_
        exact ih _ _ h kk
      · replace h := h.2 c22
        refine r_iconst (v := 2) X (x_dr DX7_calmBy 63 rfl) (by decide) ?_
        exact r_iret X rfl (x_dr DX7_calmBy 64 rfl) ⟨_, rfl, h⟩
set_option maxRecDepth 10000 in
theorem w7_calmBy_L51 {ad : xAd} {E : xE} (X : FX ad E cX7_calmBy 3 RX7 (some .int) 8 176)   {K : xSt → Prop} {Q : Int32 → xSt → Prop} : ∀ (n : Nat) (a1 : Int32) (σ : xSt), d7_calmBy_L51 K Q n a1 σ → (∀ (s : xSt), K  s → KK ad E (qI Q) 113 ([]) [] s) → KK ad E (qI Q) 51 ([(0, .ref (ad 13 0 0)), (1, .int a1)]) [] σ := by
  intro n
  induction n with
  | zero => intro a1 σ h kk; exact h.elim
  | succ n ih =>
    intro a1 σ h kk
    rw [d7_calmBy_L51] at h
    refine r_iload_n X (x_dr DX7_calmBy 31 rfl) 1 rfl rfl ?_
    refine r_aload_n X (x_dr DX7_calmBy 32 rfl) 0 rfl rfl ?_
    refine gf_7_169 X rfl (x_dr DX7_calmBy 33 rfl) ?_
    refine r_icmp_ge X 113 (x_dr DX7_calmBy 34 rfl) (by decide) (fun c13 => ?_) (fun c13 => ?_)
    · replace h := h.1 c13
      refine r_norm X [] ([]) rfl ?_
      exact kk  _ h
    · replace h := h.2 c13
      refine r_iload_n X (x_dr DX7_calmBy 35 rfl) 1 rfl rfl ?_
      refine r_iconst (v := 1) X (x_dr DX7_calmBy 36 rfl) (by decide) ?_
      refine r_iadd X (x_dr DX7_calmBy 37 rfl) ?_
      refine r_nmI (fun v14 ev14 => ?_)
      replace h := h v14 ev14
      refine r_istore_n X ([(2, .int v14), (0, .ref (ad 13 0 0)), (1, .int a1)]) (x_dr DX7_calmBy 38 rfl) rfl (by decide) rfl ?_
      refine r_norm X [1, 2, 0] ([(0, .ref (ad 13 0 0)), (1, .int a1), (2, .int v14)]) rfl ?_
      refine w7_calmBy_L63 X  _ _ _ h (fun s24 h => ?_)
      obtain ⟨v25, ev25⟩ : ∃ z : Int32, z = a1 + 1 := ⟨_, rfl⟩
      replace h := h v25 ev25
      refine r_iinc (v := v25) X ([(1, .int v25), (0, .ref (ad 13 0 0))]) 1 (x_dr DX7_calmBy 67 rfl) rfl (by rw [ev25]; rfl) (by decide) rfl ?_
      refine r_goto X 51 (x_dr DX7_calmBy 68 rfl) (by decide) ?_
      refine r_norm X [1, 0] ([(0, .ref (ad 13 0 0)), (1, .int v25)]) rfl ?_
      exact ih _ _ h kk
set_option maxRecDepth 10000 in
theorem k7_calmBy {ad : xAd} {G : xG} {l : Launch} {σ : xSt} {Q : Int32 → xSt → Prop}  (h : d7_calmBy σ Q) : MC ad G l yX7_calmBy cX7_calmBy 3 (some .int) 8 176 [.ref (ad 13 0 0)] σ (qI Q) := by
  unfold d7_calmBy at h
  refine x_MC [(0, .ref (ad 13 0 0))] (by decide +kernel) rfl (Nat.le_of_ble_eq_true rfl) ?_
  intro E hG hl X
  replace X : FX ad E cX7_calmBy 3 RX7 (some .int) 8 176 := X
  refine r_aload_n X (x_dr DX7_calmBy 0 rfl) 0 rfl rfl ?_
  refine cl7_asTold X (k7_asTold h) rfl ml_7_233 ⟨Nat.le_of_ble_eq_true rfl, Nat.le_of_ble_eq_true rfl⟩ (Nat.le_of_ble_eq_true rfl) (x_dr DX7_calmBy 1 rfl) (fun s1 h => ?_)
  refine r_aload_n X (x_dr DX7_calmBy 2 rfl) 0 rfl rfl ?_
  refine r_iconst (v := 0) X (x_dr DX7_calmBy 3 rfl) (by decide) ?_
  refine cl7_isCalm X (k7_isCalm h) rfl ml_7_288 ⟨Nat.le_of_ble_eq_true rfl, Nat.le_of_ble_eq_true rfl⟩ (Nat.le_of_ble_eq_true rfl) (x_dr DX7_calmBy 4 rfl) (fun v3 s2 zv3 h => ?_)
  refine r_if_eq X 14 (x_dr DX7_calmBy 5 rfl) (by decide) (fun c4 => ?_) (fun c4 => ?_)
  · replace h := h.1 c4
    refine r_iconst (v := 0) X (x_dr DX7_calmBy 8 rfl) (by decide) ?_
    refine r_istore_n X ([(1, .int 0), (0, .ref (ad 13 0 0))]) (x_dr DX7_calmBy 9 rfl) rfl (by decide) rfl ?_
    refine r_norm X [1, 0] ([(0, .ref (ad 13 0 0)), (1, .int 0)]) rfl ?_
    refine w7_calmBy_L16 X  _ _ _ h (fun s12 h => ?_)
    refine r_iconst (v := 0) X (x_dr DX7_calmBy 29 rfl) (by decide) ?_
    refine r_istore_n X ([(1, .int 0), (0, .ref (ad 13 0 0))]) (x_dr DX7_calmBy 30 rfl) rfl (by decide) rfl ?_
    refine r_norm X [1, 0] ([(0, .ref (ad 13 0 0)), (1, .int 0)]) rfl ?_
    refine w7_calmBy_L51 X  _ _ _ h (fun s26 h => ?_)
    refine r_iconst (v := (-1)) X (x_dr DX7_calmBy 69 rfl) (by decide) ?_
    exact r_iret X rfl (x_dr DX7_calmBy 70 rfl) ⟨_, rfl, h⟩
  · replace h := h.2 c4
    refine r_iconst (v := 0) X (x_dr DX7_calmBy 6 rfl) (by decide) ?_
    exact r_iret X rfl (x_dr DX7_calmBy 7 rfl) ⟨_, rfl, h⟩
set_option maxRecDepth 10000 in
theorem k7_ofRow {ad : xAd} {G : xG} {l : Launch} {a1 : Int32} {a2 : Int32} {σ : xSt} {Q : Int32 → xSt → Prop}  (h : d7_ofRow a1 a2 σ Q) : MC ad G l yX7_ofRow cX7_ofRow 3 (some .int) 0 0 [.ref (ad 13 0 0), .int a1, .int a2] σ (qI Q) := by
  unfold d7_ofRow at h
  refine x_MC [(0, .ref (ad 13 0 0)), (1, .int a1), (2, .int a2)] (by decide +kernel) rfl (Nat.le_of_ble_eq_true rfl) ?_
  intro E hG hl X
  replace X : FX ad E cX7_ofRow 3 RX7 (some .int) 0 0 := X
  refine r_iload_n X (x_dr DX7_ofRow 0 rfl) 2 rfl rfl ?_
  refine r_iconst (v := (-1)) X (x_dr DX7_ofRow 1 rfl) (by decide) ?_
  refine r_icmp_ne X 9 (x_dr DX7_ofRow 2 rfl) (by decide) (fun c1 => ?_) (fun c1 => ?_)
  · replace h := h.1 c1
    refine r_iload_n X (x_dr DX7_ofRow 5 rfl) 2 rfl rfl ?_
    refine r_iload_n X (x_dr DX7_ofRow 6 rfl) 1 rfl rfl ?_
    refine r_icmp_ge X 23 (x_dr DX7_ofRow 7 rfl) (by decide) (fun c2 => ?_) (fun c2 => ?_)
    · replace h := h.1 c2
      refine r_iconst (v := (-1)) X (x_dr DX7_ofRow 13 rfl) (by decide) ?_
      exact r_iret X rfl (x_dr DX7_ofRow 14 rfl) ⟨_, rfl, h⟩
    · replace h := h.2 c2
      refine r_aload_n X (x_dr DX7_ofRow 8 rfl) 0 rfl rfl ?_
      refine gf_7_82 X rfl (x_dr DX7_ofRow 9 rfl) ?_
      refine r_iload_n X (x_dr DX7_ofRow 10 rfl) 2 rfl rfl ?_
      obtain ⟨b3, h⟩ := h
      refine r_iald X rfl rfl b3 (x_dr DX7_ofRow 11 rfl) ?_
      refine r_goto X 24 (x_dr DX7_ofRow 12 rfl) (by decide) ?_
      exact r_iret X rfl (x_dr DX7_ofRow 14 rfl) ⟨_, rfl, h⟩
  · replace h := h.2 c1
    refine r_iload_n X (x_dr DX7_ofRow 3 rfl) 1 rfl rfl ?_
    refine r_goto X 24 (x_dr DX7_ofRow 4 rfl) (by decide) ?_
    exact r_iret X rfl (x_dr DX7_ofRow 14 rfl) ⟨_, rfl, h⟩
set_option maxRecDepth 10000 in
theorem k7_calm {ad : xAd} {G : xG} {l : Launch} {a1 : Int32} {σ : xSt} {Q : Int32 → xSt → Prop}  (h : d7_calm a1 σ Q) : MC ad G l yX7_calm cX7_calm 2 (some .int) 9 198 [.ref (ad 13 0 0), .int a1] σ (qI Q) := by
  unfold d7_calm at h
  refine x_MC [(0, .ref (ad 13 0 0)), (1, .int a1)] (by decide +kernel) rfl (Nat.le_of_ble_eq_true rfl) ?_
  intro E hG hl X
  replace X : FX ad E cX7_calm 2 RX7 (some .int) 9 198 := X
  refine r_iload_n X (x_dr DX7_calm 0 rfl) 1 rfl rfl ?_
  refine r_iconst (v := (-1)) X (x_dr DX7_calm 1 rfl) (by decide) ?_
  refine r_iconst (v := 1) X (x_dr DX7_calm 2 rfl) (by decide) ?_
  refine cl7_in X (k7_in h) ml_7_115 ⟨Nat.le_of_ble_eq_true rfl, Nat.le_of_ble_eq_true rfl⟩ (Nat.le_of_ble_eq_true rfl) (x_dr DX7_calm 3 rfl) (fun v2 s1 zv2 h => ?_)
  refine r_if_eq X 21 (x_dr DX7_calm 4 rfl) (by decide) (fun c3 => ?_) (fun c3 => ?_)
  · replace h := h.1 c3
    refine r_bipush (v := (-2)) X (x_dr DX7_calm 11 rfl) (by decide) ?_
    exact r_iret X rfl (x_dr DX7_calm 12 rfl) ⟨_, rfl, h⟩
  · replace h := h.2 c3
    refine r_aload_n X (x_dr DX7_calm 5 rfl) 0 rfl rfl ?_
    refine r_aload_n X (x_dr DX7_calm 6 rfl) 0 rfl rfl ?_
    refine cl7_calmBy X (k7_calmBy h) rfl ml_7_291 ⟨Nat.le_of_ble_eq_true rfl, Nat.le_of_ble_eq_true rfl⟩ (Nat.le_of_ble_eq_true rfl) (x_dr DX7_calm 7 rfl) (fun v5 s4 h => ?_)
    refine r_iload_n X (x_dr DX7_calm 8 rfl) 1 rfl rfl ?_
    refine cl7_ofRow X (k7_ofRow h) rfl ml_7_294 ⟨Nat.le_of_ble_eq_true rfl, Nat.le_of_ble_eq_true rfl⟩ (Nat.le_of_ble_eq_true rfl) (x_dr DX7_calm 9 rfl) (fun v7 s6 h => ?_)
    refine r_goto X 23 (x_dr DX7_calm 10 rfl) (by decide) ?_
    exact r_iret X rfl (x_dr DX7_calm 12 rfl) ⟨_, rfl, h⟩
set_option maxRecDepth 10000 in
theorem k7_seen {ad : xAd} {G : xG} {l : Launch} {a1 : Int32} {a2 : Int32} {a3 : Int32} {σ : xSt} {Q : Int32 → xSt → Prop}  (h : d7_seen a1 a2 a3 σ Q) : MC ad G l yX7_seen cX7_seen 4 (some .int) 2 42 [.ref (ad 13 0 0), .int a1, .int a2, .int a3] σ (qI Q) := by
  unfold d7_seen at h
  refine x_MC [(0, .ref (ad 13 0 0)), (1, .int a1), (2, .int a2), (3, .int a3)] (by decide +kernel) rfl (Nat.le_of_ble_eq_true rfl) ?_
  intro E hG hl X
  replace X : FX ad E cX7_seen 4 RX7 (some .int) 2 42 := X
  refine r_iload_n X (x_dr DX7_seen 0 rfl) 1 rfl rfl ?_
  refine cl7_isHour X (k7_isHour h) ml_7_166 ⟨Nat.le_of_ble_eq_true rfl, Nat.le_of_ble_eq_true rfl⟩ (Nat.le_of_ble_eq_true rfl) (x_dr DX7_seen 1 rfl) (fun v2 s1 zv2 h => ?_)
  refine r_if_eq X 24 (x_dr DX7_seen 2 rfl) (by decide) (fun c3 => ?_) (fun c3 => ?_)
  · replace h := h.1 c3
    refine r_bipush (v := (-2)) X (x_dr DX7_seen 11 rfl) (by decide) ?_
    exact r_iret X rfl (x_dr DX7_seen 12 rfl) ⟨_, rfl, h⟩
  · replace h := h.2 c3
    refine r_iload_n X (x_dr DX7_seen 3 rfl) 2 rfl rfl ?_
    refine r_iconst (v := 0) X (x_dr DX7_seen 4 rfl) (by decide) ?_
    refine r_bipush (v := 7) X (x_dr DX7_seen 5 rfl) (by decide) ?_
    refine cl7_in X (k7_in h) ml_7_115 ⟨Nat.le_of_ble_eq_true rfl, Nat.le_of_ble_eq_true rfl⟩ (Nat.le_of_ble_eq_true rfl) (x_dr DX7_seen 6 rfl) (fun v5 s4 zv5 h => ?_)
    refine r_if_eq X 24 (x_dr DX7_seen 7 rfl) (by decide) (fun c6 => ?_) (fun c6 => ?_)
    · replace h := h.1 c6
      refine r_bipush (v := (-2)) X (x_dr DX7_seen 11 rfl) (by decide) ?_
      exact r_iret X rfl (x_dr DX7_seen 12 rfl) ⟨_, rfl, h⟩
    · replace h := h.2 c6
      refine r_iload_n X (x_dr DX7_seen 8 rfl) 3 rfl rfl ?_
      refine cl7_isPlace X (k7_isPlace h) ml_7_154 ⟨Nat.le_of_ble_eq_true rfl, Nat.le_of_ble_eq_true rfl⟩ (Nat.le_of_ble_eq_true rfl) (x_dr DX7_seen 9 rfl) (fun v8 s7 zv8 h => ?_)
      refine r_if_ne X 27 (x_dr DX7_seen 10 rfl) (by decide) (fun c9 => ?_) (fun c9 => ?_)
      · replace h := h.1 c9
        refine r_aload_n X (x_dr DX7_seen 13 rfl) 0 rfl rfl ?_
        refine gf_7_297 X rfl (x_dr DX7_seen 14 rfl) ?_
        refine r_bipush (v := 8) X (x_dr DX7_seen 15 rfl) (by decide) ?_
        refine r_icmp_ne X 39 (x_dr DX7_seen 16 rfl) (by decide) (fun c10 => ?_) (fun c10 => ?_)
        · replace h := h.1 c10
          refine r_aload_n X (x_dr DX7_seen 19 rfl) 0 rfl rfl ?_
          refine gf_7_85 X rfl (x_dr DX7_seen 20 rfl) ?_
          refine r_aload_n X (x_dr DX7_seen 21 rfl) 0 rfl rfl ?_
          refine gf_7_297 X rfl (x_dr DX7_seen 22 rfl) ?_
          refine r_iload_n X (x_dr DX7_seen 23 rfl) 1 rfl rfl ?_
          obtain ⟨b11, h⟩ := h
          refine r_iast X rfl rfl b11 (x_dr DX7_seen 24 rfl) ?_
          refine r_nmS (fun s12 es12 => ?_)
          replace h := h s12 es12
          refine r_aload_n X (x_dr DX7_seen 25 rfl) 0 rfl rfl ?_
          refine gf_7_88 X rfl (x_dr DX7_seen 26 rfl) ?_
          refine r_aload_n X (x_dr DX7_seen 27 rfl) 0 rfl rfl ?_
          refine gf_7_297 X rfl (x_dr DX7_seen 28 rfl) ?_
          refine r_iload_n X (x_dr DX7_seen 29 rfl) 2 rfl rfl ?_
          obtain ⟨b13, h⟩ := h
          refine r_iast X rfl rfl b13 (x_dr DX7_seen 30 rfl) ?_
          refine r_nmS (fun s14 es14 => ?_)
          replace h := h s14 es14
          refine r_aload_n X (x_dr DX7_seen 31 rfl) 0 rfl rfl ?_
          refine gf_7_91 X rfl (x_dr DX7_seen 32 rfl) ?_
          refine r_aload_n X (x_dr DX7_seen 33 rfl) 0 rfl rfl ?_
          refine gf_7_297 X rfl (x_dr DX7_seen 34 rfl) ?_
          refine r_iload_n X (x_dr DX7_seen 35 rfl) 3 rfl rfl ?_
          obtain ⟨b15, h⟩ := h
          refine r_iast X rfl rfl b15 (x_dr DX7_seen 36 rfl) ?_
          refine r_nmS (fun s16 es16 => ?_)
          replace h := h s16 es16
          refine r_aload_n X (x_dr DX7_seen 37 rfl) 0 rfl rfl ?_
          refine r_dup X (x_dr DX7_seen 38 rfl) rfl ?_
          refine gf_7_297 X rfl (x_dr DX7_seen 39 rfl) ?_
          refine r_iconst (v := 1) X (x_dr DX7_seen 40 rfl) (by decide) ?_
          refine r_iadd X (x_dr DX7_seen 41 rfl) ?_
          refine pf_7_297 X rfl (x_dr DX7_seen 42 rfl) ?_
          refine r_nmS (fun s17 es17 => ?_)
          replace h := h s17 es17
          refine r_aload_n X (x_dr DX7_seen 43 rfl) 0 rfl rfl ?_
          refine gf_7_297 X rfl (x_dr DX7_seen 44 rfl) ?_
          exact r_iret X rfl (x_dr DX7_seen 45 rfl) ⟨_, rfl, h⟩
        · replace h := h.2 c10
          refine r_bipush (v := (-4)) X (x_dr DX7_seen 17 rfl) (by decide) ?_
          exact r_iret X rfl (x_dr DX7_seen 18 rfl) ⟨_, rfl, h⟩
      · replace h := h.2 c9
        refine r_bipush (v := (-2)) X (x_dr DX7_seen 11 rfl) (by decide) ?_
        exact r_iret X rfl (x_dr DX7_seen 12 rfl) ⟨_, rfl, h⟩
set_option maxRecDepth 10000 in
theorem k7_forget {ad : xAd} {G : xG} {l : Launch} {σ : xSt} {Q : Int32 → xSt → Prop}  (h : d7_forget σ Q) : MC ad G l yX7_forget cX7_forget 2 (some .int) 0 0 [.ref (ad 13 0 0)] σ (qI Q) := by
  unfold d7_forget at h
  refine x_MC [(0, .ref (ad 13 0 0))] (by decide +kernel) rfl (Nat.le_of_ble_eq_true rfl) ?_
  intro E hG hl X
  replace X : FX ad E cX7_forget 2 RX7 (some .int) 0 0 := X
  refine r_aload_n X (x_dr DX7_forget 0 rfl) 0 rfl rfl ?_
  refine gf_7_297 X rfl (x_dr DX7_forget 1 rfl) ?_
  refine r_nmI (fun v1 ev1 => ?_)
  replace h := h v1 ev1
  refine r_istore_n X ([(1, .int v1), (0, .ref (ad 13 0 0))]) (x_dr DX7_forget 2 rfl) rfl (by decide) rfl ?_
  refine r_aload_n X (x_dr DX7_forget 3 rfl) 1 rfl rfl ?_
  refine r_iconst (v := 0) X (x_dr DX7_forget 4 rfl) (by decide) ?_
  refine pf_7_297 X rfl (x_dr DX7_forget 5 rfl) ?_
  refine r_nmS (fun s2 es2 => ?_)
  replace h := h s2 es2
  refine r_iload_n X (x_dr DX7_forget 6 rfl) 0 rfl rfl ?_
  exact r_iret X rfl (x_dr DX7_forget 7 rfl) ⟨_, rfl, h⟩
set_option maxRecDepth 10000 in
theorem w7_isSeen_L8 {ad : xAd} {E : xE} (X : FX ad E cX7_isSeen 3 RX7 (some .boolean) 7 155)   {K : Int32 → xSt → Prop} {Q : Int32 → xSt → Prop} : ∀ (n : Nat) (a1 : Int32) (a2 : Int32) (σ : xSt), d7_isSeen_L8 K Q n a1 a2 σ → (∀ (a1 : Int32) (s : xSt), K a1 s → KK ad E (qZ Q) 75 ([(1, .int a1)]) [] s) → KK ad E (qZ Q) 8 ([(0, .ref (ad 13 0 0)), (1, .int a1), (2, .int a2)]) [] σ := by
  intro n
  induction n with
  | zero => intro a1 a2 σ h kk; exact h.elim
  | succ n ih =>
    intro a1 a2 σ h kk
    rw [d7_isSeen_L8] at h
    refine r_iload_n X (x_dr DX7_isSeen 6 rfl) 2 rfl rfl ?_
    refine r_aload_n X (x_dr DX7_isSeen 7 rfl) 0 rfl rfl ?_
    refine gf_7_297 X rfl (x_dr DX7_isSeen 8 rfl) ?_
    refine r_icmp_ge X 75 (x_dr DX7_isSeen 9 rfl) (by decide) (fun c2 => ?_) (fun c2 => ?_)
    · replace h := h.1 c2
      refine r_norm X [1] ([(1, .int a1)]) rfl ?_
      exact kk _ _ h
    · replace h := h.2 c2
      refine r_iload_n X (x_dr DX7_isSeen 10 rfl) 1 rfl rfl ?_
      refine r_if_eq X 75 (x_dr DX7_isSeen 11 rfl) (by decide) (fun c3 => ?_) (fun c3 => ?_)
      · replace h := h.1 c3
        refine r_norm X [1] ([(1, .int a1)]) rfl ?_
        exact kk _ _ h
      · replace h := h.2 c3
        refine r_aload_n X (x_dr DX7_isSeen 12 rfl) 0 rfl rfl ?_
        refine gf_7_88 X rfl (x_dr DX7_isSeen 13 rfl) ?_
        refine r_iload_n X (x_dr DX7_isSeen 14 rfl) 2 rfl rfl ?_
        obtain ⟨b4, h⟩ := h
        refine r_iald X rfl rfl b4 (x_dr DX7_isSeen 15 rfl) ?_
        refine r_aload_n X (x_dr DX7_isSeen 16 rfl) 0 rfl rfl ?_
        refine gf_7_134 X rfl (x_dr DX7_isSeen 17 rfl) ?_
        refine r_icmp_ge X 67 (x_dr DX7_isSeen 18 rfl) (by decide) (fun c5 => ?_) (fun c5 => ?_)
        · replace h := h.1 c5
          refine r_iconst (v := 0) X (x_dr DX7_isSeen 40 rfl) (by decide) ?_
          refine r_istore_n X ([(1, .int 0), (0, .ref (ad 13 0 0)), (2, .int a2)]) (x_dr DX7_isSeen 41 rfl) rfl (by decide) rfl ?_
          obtain ⟨v6, ev6⟩ : ∃ z : Int32, z = a2 + 1 := ⟨_, rfl⟩
          replace h := h v6 ev6
          refine r_iinc (v := v6) X ([(2, .int v6), (1, .int 0), (0, .ref (ad 13 0 0))]) 2 (x_dr DX7_isSeen 42 rfl) rfl (by rw [ev6]; rfl) (by decide) rfl ?_
          refine r_goto X 8 (x_dr DX7_isSeen 43 rfl) (by decide) ?_
          refine r_norm X [2, 1, 0] ([(0, .ref (ad 13 0 0)), (1, .int 0), (2, .int v6)]) rfl ?_
          exact ih _ _ _ h kk
        · replace h := h.2 c5
          refine r_aload_n X (x_dr DX7_isSeen 19 rfl) 0 rfl rfl ?_
          refine gf_7_64 X rfl (x_dr DX7_isSeen 20 rfl) ?_
          refine r_bipush (v := 8) X (x_dr DX7_isSeen 21 rfl) (by decide) ?_
          refine r_aload_n X (x_dr DX7_isSeen 22 rfl) 0 rfl rfl ?_
          refine gf_7_85 X rfl (x_dr DX7_isSeen 23 rfl) ?_
          refine r_iload_n X (x_dr DX7_isSeen 24 rfl) 2 rfl rfl ?_
          obtain ⟨b7, h⟩ := h
          refine r_iald X rfl rfl b7 (x_dr DX7_isSeen 25 rfl) ?_
          refine r_imul X (x_dr DX7_isSeen 26 rfl) ?_
          refine r_aload_n X (x_dr DX7_isSeen 27 rfl) 0 rfl rfl ?_
          refine gf_7_88 X rfl (x_dr DX7_isSeen 28 rfl) ?_
          refine r_iload_n X (x_dr DX7_isSeen 29 rfl) 2 rfl rfl ?_
          obtain ⟨b8, h⟩ := h
          refine r_iald X rfl rfl b8 (x_dr DX7_isSeen 30 rfl) ?_
          refine r_iadd X (x_dr DX7_isSeen 31 rfl) ?_
          obtain ⟨b9, h⟩ := h
          refine r_iald X rfl rfl b9 (x_dr DX7_isSeen 32 rfl) ?_
          refine r_aload_n X (x_dr DX7_isSeen 33 rfl) 0 rfl rfl ?_
          refine gf_7_91 X rfl (x_dr DX7_isSeen 34 rfl) ?_
          refine r_iload_n X (x_dr DX7_isSeen 35 rfl) 2 rfl rfl ?_
          obtain ⟨b10, h⟩ := h
          refine r_iald X rfl rfl b10 (x_dr DX7_isSeen 36 rfl) ?_
          refine r_icmp_ne X 67 (x_dr DX7_isSeen 37 rfl) (by decide) (fun c11 => ?_) (fun c11 => ?_)
          · replace h := h.1 c11
            refine r_iconst (v := 0) X (x_dr DX7_isSeen 40 rfl) (by decide) ?_
            refine r_istore_n X ([(1, .int 0), (0, .ref (ad 13 0 0)), (2, .int a2)]) (x_dr DX7_isSeen 41 rfl) rfl (by decide) rfl ?_
            obtain ⟨v12, ev12⟩ : ∃ z : Int32, z = a2 + 1 := ⟨_, rfl⟩
            replace h := h v12 ev12
            refine r_iinc (v := v12) X ([(2, .int v12), (1, .int 0), (0, .ref (ad 13 0 0))]) 2 (x_dr DX7_isSeen 42 rfl) rfl (by rw [ev12]; rfl) (by decide) rfl ?_
            refine r_goto X 8 (x_dr DX7_isSeen 43 rfl) (by decide) ?_
            refine r_norm X [2, 1, 0] ([(0, .ref (ad 13 0 0)), (1, .int 0), (2, .int v12)]) rfl ?_
            exact ih _ _ _ h kk
          · replace h := h.2 c11
            refine r_iconst (v := 1) X (x_dr DX7_isSeen 38 rfl) (by decide) ?_
            refine r_goto X 68 (x_dr DX7_isSeen 39 rfl) (by decide) ?_
            refine r_istore_n X ([(1, .int 1), (0, .ref (ad 13 0 0)), (2, .int a2)]) (x_dr DX7_isSeen 41 rfl) rfl (by decide) rfl ?_
            obtain ⟨v13, ev13⟩ : ∃ z : Int32, z = a2 + 1 := ⟨_, rfl⟩
            replace h := h v13 ev13
            refine r_iinc (v := v13) X ([(2, .int v13), (1, .int 1), (0, .ref (ad 13 0 0))]) 2 (x_dr DX7_isSeen 42 rfl) rfl (by rw [ev13]; rfl) (by decide) rfl ?_
            refine r_goto X 8 (x_dr DX7_isSeen 43 rfl) (by decide) ?_
            refine r_norm X [2, 1, 0] ([(0, .ref (ad 13 0 0)), (1, .int 1), (2, .int v13)]) rfl ?_
            exact ih _ _ _ h kk
set_option maxRecDepth 10000 in
theorem k7_isSeen {ad : xAd} {G : xG} {l : Launch} {σ : xSt} {Q : Int32 → xSt → Prop}  (h : d7_isSeen σ Q) : MC ad G l yX7_isSeen cX7_isSeen 3 (some .boolean) 7 155 [.ref (ad 13 0 0)] σ (qZ Q) := by
  unfold d7_isSeen at h
  refine x_MC [(0, .ref (ad 13 0 0))] (by decide +kernel) rfl (Nat.le_of_ble_eq_true rfl) ?_
  intro E hG hl X
  replace X : FX ad E cX7_isSeen 3 RX7 (some .boolean) 7 155 := X
  refine r_aload_n X (x_dr DX7_isSeen 0 rfl) 0 rfl rfl ?_
  refine cl7_runs X (k7_runs h) rfl ml_7_236 ⟨Nat.le_of_ble_eq_true rfl, Nat.le_of_ble_eq_true rfl⟩ (Nat.le_of_ble_eq_true rfl) (x_dr DX7_isSeen 1 rfl) (fun s1 h => ?_)
  refine r_iconst (v := 1) X (x_dr DX7_isSeen 2 rfl) (by decide) ?_
  refine r_istore_n X ([(1, .int 1), (0, .ref (ad 13 0 0))]) (x_dr DX7_isSeen 3 rfl) rfl (by decide) rfl ?_
  refine r_iconst (v := 0) X (x_dr DX7_isSeen 4 rfl) (by decide) ?_
  refine r_istore_n X ([(2, .int 0), (1, .int 1), (0, .ref (ad 13 0 0))]) (x_dr DX7_isSeen 5 rfl) rfl (by decide) rfl ?_
  refine r_norm X [2, 1, 0] ([(0, .ref (ad 13 0 0)), (1, .int 1), (2, .int 0)]) rfl ?_
  refine w7_isSeen_L8 X  _ _ _ _ h (fun v15 s14 h => ?_)
  refine r_iload_n X (x_dr DX7_isSeen 44 rfl) 0 rfl rfl ?_
  exact r_zret X rfl (x_dr DX7_isSeen 45 rfl) h.1 ⟨_, rfl, h.1, h.2⟩
set_option maxRecDepth 10000 in
theorem w7_neverNow_L8 {ad : xAd} {E : xE} (X : FX ad E cX7_neverNow 3 RX7 (some .int) 8 177)   {K : Int32 → xSt → Prop} {Q : Int32 → xSt → Prop} : ∀ (n : Nat) (a1 : Int32) (a2 : Int32) (σ : xSt), d7_neverNow_L8 K Q n a1 a2 σ → (∀ (a1 : Int32) (s : xSt), K a1 s → KK ad E (qI Q) 46 ([(1, .int a1)]) [] s) → KK ad E (qI Q) 8 ([(0, .ref (ad 13 0 0)), (1, .int a1), (2, .int a2)]) [] σ := by
  intro n
  induction n with
  | zero => intro a1 a2 σ h kk; exact h.elim
  | succ n ih =>
    intro a1 a2 σ h kk
    rw [d7_neverNow_L8] at h
    refine r_iload_n X (x_dr DX7_neverNow 6 rfl) 2 rfl rfl ?_
    refine r_aload_n X (x_dr DX7_neverNow 7 rfl) 0 rfl rfl ?_
    refine gf_7_169 X rfl (x_dr DX7_neverNow 8 rfl) ?_
    refine r_icmp_ge X 46 (x_dr DX7_neverNow 9 rfl) (by decide) (fun c2 => ?_) (fun c2 => ?_)
    · replace h := h.1 c2
      refine r_norm X [1] ([(1, .int a1)]) rfl ?_
      exact kk _ _ h
    · replace h := h.2 c2
      refine r_aload_n X (x_dr DX7_neverNow 10 rfl) 0 rfl rfl ?_
      refine r_iconst (v := 1) X (x_dr DX7_neverNow 11 rfl) (by decide) ?_
      refine r_iload_n X (x_dr DX7_neverNow 12 rfl) 2 rfl rfl ?_
      refine r_ishl X (x_dr DX7_neverNow 13 rfl) ?_
      refine pf_7_185 X rfl (x_dr DX7_neverNow 14 rfl) ?_
      refine r_nmS (fun s3 es3 => ?_)
      replace h := h s3 es3
      refine r_iload_n X (x_dr DX7_neverNow 15 rfl) 1 rfl rfl ?_
      refine r_aload_n X (x_dr DX7_neverNow 16 rfl) 0 rfl rfl ?_
      refine cl7_isSeen X (k7_isSeen h) rfl ml_7_300 ⟨Nat.le_of_ble_eq_true rfl, Nat.le_of_ble_eq_true rfl⟩ (Nat.le_of_ble_eq_true rfl) (x_dr DX7_neverNow 17 rfl) (fun v5 s4 zv5 h => ?_)
      obtain ⟨j8, ej8, h⟩ := x_jn h
      have Jj8 : ∀ (v7 : Int32), j8 v7 → KK ad E (qI Q) 38 ([(0, .ref (ad 13 0 0)), (2, .int a2)]) [.int v7, .int a1] s4 := by
        intro v7 h
        rw [ej8] at h
        refine r_ior X (x_dr DX7_neverNow 24 rfl) ?_
        refine r_nmI (fun v9 ev9 => ?_)
        replace h := h v9 ev9
        refine r_istore_n X ([(1, .int v9), (0, .ref (ad 13 0 0)), (2, .int a2)]) (x_dr DX7_neverNow 25 rfl) rfl (by decide) rfl ?_
        obtain ⟨v10, ev10⟩ : ∃ z : Int32, z = a2 + 1 := ⟨_, rfl⟩
        replace h := h v10 ev10
        refine r_iinc (v := v10) X ([(2, .int v10), (1, .int v9), (0, .ref (ad 13 0 0))]) 2 (x_dr DX7_neverNow 26 rfl) rfl (by rw [ev10]; rfl) (by decide) rfl ?_
        refine r_goto X 8 (x_dr DX7_neverNow 27 rfl) (by decide) ?_
        refine r_norm X [2, 1, 0] ([(0, .ref (ad 13 0 0)), (1, .int v9), (2, .int v10)]) rfl ?_
        exact ih _ _ _ h kk
      refine r_if_eq X 37 (x_dr DX7_neverNow 18 rfl) (by decide) (fun c11 => ?_) (fun c11 => ?_)
      · replace h := h.1 c11
        refine r_iconst (v := 0) X (x_dr DX7_neverNow 23 rfl) (by decide) ?_
        refine r_norm X [0, 2] ([(0, .ref (ad 13 0 0)), (2, .int a2)]) rfl ?_
        exact Jj8 _ h
      · replace h := h.2 c11
        refine r_iconst (v := 1) X (x_dr DX7_neverNow 19 rfl) (by decide) ?_
        refine r_iload_n X (x_dr DX7_neverNow 20 rfl) 2 rfl rfl ?_
        refine r_ishl X (x_dr DX7_neverNow 21 rfl) ?_
        refine r_goto X 38 (x_dr DX7_neverNow 22 rfl) (by decide) ?_
        refine r_norm X [0, 2] ([(0, .ref (ad 13 0 0)), (2, .int a2)]) rfl ?_
        exact Jj8 _ h
set_option maxRecDepth 10000 in
theorem k7_neverNow {ad : xAd} {G : xG} {l : Launch} {σ : xSt} {Q : Int32 → xSt → Prop}  (h : d7_neverNow σ Q) : MC ad G l yX7_neverNow cX7_neverNow 3 (some .int) 8 177 [.ref (ad 13 0 0)] σ (qI Q) := by
  unfold d7_neverNow at h
  refine x_MC [(0, .ref (ad 13 0 0))] (by decide +kernel) rfl (Nat.le_of_ble_eq_true rfl) ?_
  intro E hG hl X
  replace X : FX ad E cX7_neverNow 3 RX7 (some .int) 8 177 := X
  refine r_aload_n X (x_dr DX7_neverNow 0 rfl) 0 rfl rfl ?_
  refine cl7_asTold X (k7_asTold h) rfl ml_7_233 ⟨Nat.le_of_ble_eq_true rfl, Nat.le_of_ble_eq_true rfl⟩ (Nat.le_of_ble_eq_true rfl) (x_dr DX7_neverNow 1 rfl) (fun s1 h => ?_)
  refine r_iconst (v := 0) X (x_dr DX7_neverNow 2 rfl) (by decide) ?_
  refine r_istore_n X ([(1, .int 0), (0, .ref (ad 13 0 0))]) (x_dr DX7_neverNow 3 rfl) rfl (by decide) rfl ?_
  refine r_iconst (v := 0) X (x_dr DX7_neverNow 4 rfl) (by decide) ?_
  refine r_istore_n X ([(2, .int 0), (1, .int 0), (0, .ref (ad 13 0 0))]) (x_dr DX7_neverNow 5 rfl) rfl (by decide) rfl ?_
  refine r_norm X [2, 1, 0] ([(0, .ref (ad 13 0 0)), (1, .int 0), (2, .int 0)]) rfl ?_
  refine w7_neverNow_L8 X  _ _ _ _ h (fun v13 s12 h => ?_)
  refine r_iload_n X (x_dr DX7_neverNow 28 rfl) 0 rfl rfl ?_
  exact r_iret X rfl (x_dr DX7_neverNow 29 rfl) ⟨_, rfl, h⟩
set_option maxRecDepth 10000 in
theorem k7_never {ad : xAd} {G : xG} {l : Launch} {σ : xSt} {Q : Int32 → xSt → Prop}  (h : d7_never σ Q) : MC ad G l yX7_never cX7_never 1 (some .int) 9 199 [.ref (ad 13 0 0)] σ (qI Q) := by
  unfold d7_never at h
  refine x_MC [(0, .ref (ad 13 0 0))] (by decide +kernel) rfl (Nat.le_of_ble_eq_true rfl) ?_
  intro E hG hl X
  replace X : FX ad E cX7_never 1 RX7 (some .int) 9 199 := X
  refine r_aload_n X (x_dr DX7_never 0 rfl) 0 rfl rfl ?_
  refine cl7_neverNow X (k7_neverNow h) rfl ml_7_304 ⟨Nat.le_of_ble_eq_true rfl, Nat.le_of_ble_eq_true rfl⟩ (Nat.le_of_ble_eq_true rfl) (x_dr DX7_never 1 rfl) (fun v2 s1 h => ?_)
  exact r_iret X rfl (x_dr DX7_never 2 rfl) ⟨_, rfl, h⟩
set_option maxRecDepth 10000 in
theorem w7_sortsBy_L16 {ad : xAd} {E : xE} (X : FX ad E cX7_sortsBy 5 RX7 (some .int) 8 177)   {a1 : Int32} {a2 : Int32} {K : Int32 → xSt → Prop} {Q : Int32 → xSt → Prop} : ∀ (n : Nat) (a3 : Int32) (a4 : Int32) (σ : xSt), d7_sortsBy_L16 a1 a2 K Q n a3 a4 σ → (∀ (a3 : Int32) (s : xSt), K a3 s → KK ad E (qI Q) 54 ([(0, .ref (ad 13 0 0)), (1, .int a1), (2, .int a2), (3, .int a3)]) [] s) → KK ad E (qI Q) 16 ([(0, .ref (ad 13 0 0)), (1, .int a1), (2, .int a2), (3, .int a3), (4, .int a4)]) [] σ := by
  intro n
  induction n with
  | zero => intro a3 a4 σ h kk; exact h.elim
  | succ n ih =>
    intro a3 a4 σ h kk
    rw [d7_sortsBy_L16] at h
    refine r_iload X (x_dr DX7_sortsBy 11 rfl) 4 rfl ?_
    refine r_iconst (v := 3) X (x_dr DX7_sortsBy 12 rfl) (by decide) ?_
    refine r_icmp_ge X 54 (x_dr DX7_sortsBy 13 rfl) (by decide) (fun c4 => ?_) (fun c4 => ?_)
    · replace h := h.1 c4
      refine r_norm X [0, 1, 2, 3] ([(0, .ref (ad 13 0 0)), (1, .int a1), (2, .int a2), (3, .int a3)]) rfl ?_
      exact kk _ _ h
    · replace h := h.2 c4
      refine r_aload_n X (x_dr DX7_sortsBy 14 rfl) 0 rfl rfl ?_
      refine gf_7_19 X rfl (x_dr DX7_sortsBy 15 rfl) ?_
      refine r_iload_n X (x_dr DX7_sortsBy 16 rfl) 1 rfl rfl ?_
      refine r_iload X (x_dr DX7_sortsBy 17 rfl) 4 rfl ?_
      obtain ⟨b5, h⟩ := h
      refine r_iast X rfl rfl b5 (x_dr DX7_sortsBy 18 rfl) ?_
      refine r_nmS (fun s6 es6 => ?_)
      replace h := h s6 es6
      refine r_iload_n X (x_dr DX7_sortsBy 19 rfl) 3 rfl rfl ?_
      refine r_aload_n X (x_dr DX7_sortsBy 20 rfl) 0 rfl rfl ?_
      refine cl7_isSeen X (k7_isSeen h) rfl ml_7_300 ⟨Nat.le_of_ble_eq_true rfl, Nat.le_of_ble_eq_true rfl⟩ (Nat.le_of_ble_eq_true rfl) (x_dr DX7_sortsBy 21 rfl) (fun v8 s7 zv8 h => ?_)
      obtain ⟨j11, ej11, h⟩ := x_jn h
      have Jj11 : ∀ (v10 : Int32), j11 v10 → KK ad E (qI Q) 46 ([(0, .ref (ad 13 0 0)), (1, .int a1), (2, .int a2), (4, .int a4)]) [.int v10, .int a3] s7 := by
        intro v10 h
        rw [ej11] at h
        refine r_ior X (x_dr DX7_sortsBy 28 rfl) ?_
        refine r_nmI (fun v12 ev12 => ?_)
        replace h := h v12 ev12
        refine r_istore_n X ([(3, .int v12), (0, .ref (ad 13 0 0)), (1, .int a1), (2, .int a2), (4, .int a4)]) (x_dr DX7_sortsBy 29 rfl) rfl (by decide) rfl ?_
        obtain ⟨v13, ev13⟩ : ∃ z : Int32, z = a4 + 1 := ⟨_, rfl⟩
        replace h := h v13 ev13
        refine r_iinc (v := v13) X ([(4, .int v13), (3, .int v12), (0, .ref (ad 13 0 0)), (1, .int a1), (2, .int a2)]) 4 (x_dr DX7_sortsBy 30 rfl) rfl (by rw [ev13]; rfl) (by decide) rfl ?_
        refine r_goto X 16 (x_dr DX7_sortsBy 31 rfl) (by decide) ?_
        refine r_norm X [2, 3, 4, 1, 0] ([(0, .ref (ad 13 0 0)), (1, .int a1), (2, .int a2), (3, .int v12), (4, .int v13)]) rfl ?_
        exact ih _ _ _ h kk
      refine r_if_eq X 45 (x_dr DX7_sortsBy 22 rfl) (by decide) (fun c14 => ?_) (fun c14 => ?_)
      · replace h := h.1 c14
        refine r_iconst (v := 0) X (x_dr DX7_sortsBy 27 rfl) (by decide) ?_
        refine r_norm X [0, 1, 2, 4] ([(0, .ref (ad 13 0 0)), (1, .int a1), (2, .int a2), (4, .int a4)]) rfl ?_
        exact Jj11 _ h
      · replace h := h.2 c14
        refine r_iconst (v := 1) X (x_dr DX7_sortsBy 23 rfl) (by decide) ?_
        refine r_iload X (x_dr DX7_sortsBy 24 rfl) 4 rfl ?_
        refine r_ishl X (x_dr DX7_sortsBy 25 rfl) ?_
        refine r_goto X 46 (x_dr DX7_sortsBy 26 rfl) (by decide) ?_
        refine r_norm X [0, 1, 2, 4] ([(0, .ref (ad 13 0 0)), (1, .int a1), (2, .int a2), (4, .int a4)]) rfl ?_
        exact Jj11 _ h
set_option maxRecDepth 10000 in
theorem k7_sortsBy {ad : xAd} {G : xG} {l : Launch} {a1 : Int32} {σ : xSt} {Q : Int32 → xSt → Prop}  (h : d7_sortsBy a1 σ Q) : MC ad G l yX7_sortsBy cX7_sortsBy 5 (some .int) 8 177 [.ref (ad 13 0 0), .int a1] σ (qI Q) := by
  unfold d7_sortsBy at h
  refine x_MC [(0, .ref (ad 13 0 0)), (1, .int a1)] (by decide +kernel) rfl (Nat.le_of_ble_eq_true rfl) ?_
  intro E hG hl X
  replace X : FX ad E cX7_sortsBy 5 RX7 (some .int) 8 177 := X
  refine r_aload_n X (x_dr DX7_sortsBy 0 rfl) 0 rfl rfl ?_
  refine cl7_asTold X (k7_asTold h) rfl ml_7_233 ⟨Nat.le_of_ble_eq_true rfl, Nat.le_of_ble_eq_true rfl⟩ (Nat.le_of_ble_eq_true rfl) (x_dr DX7_sortsBy 1 rfl) (fun s1 h => ?_)
  refine r_aload_n X (x_dr DX7_sortsBy 2 rfl) 0 rfl rfl ?_
  refine gf_7_19 X rfl (x_dr DX7_sortsBy 3 rfl) ?_
  refine r_iload_n X (x_dr DX7_sortsBy 4 rfl) 1 rfl rfl ?_
  obtain ⟨b2, h⟩ := h
  refine r_iald X rfl rfl b2 (x_dr DX7_sortsBy 5 rfl) ?_
  refine r_nmI (fun v3 ev3 => ?_)
  replace h := h v3 ev3
  refine r_istore_n X ([(2, .int v3), (0, .ref (ad 13 0 0)), (1, .int a1)]) (x_dr DX7_sortsBy 6 rfl) rfl (by decide) rfl ?_
  refine r_iconst (v := 0) X (x_dr DX7_sortsBy 7 rfl) (by decide) ?_
  refine r_istore_n X ([(3, .int 0), (2, .int v3), (0, .ref (ad 13 0 0)), (1, .int a1)]) (x_dr DX7_sortsBy 8 rfl) rfl (by decide) rfl ?_
  refine r_iconst (v := 0) X (x_dr DX7_sortsBy 9 rfl) (by decide) ?_
  refine r_istore X ([(4, .int 0), (3, .int 0), (2, .int v3), (0, .ref (ad 13 0 0)), (1, .int a1)]) (x_dr DX7_sortsBy 10 rfl) (by decide) rfl ?_
  refine r_norm X [3, 4, 2, 1, 0] ([(0, .ref (ad 13 0 0)), (1, .int a1), (2, .int v3), (3, .int 0), (4, .int 0)]) rfl ?_
  refine w7_sortsBy_L16 X  _ _ _ _ h (fun v16 s15 h => ?_)
  refine r_aload_n X (x_dr DX7_sortsBy 32 rfl) 0 rfl rfl ?_
  refine gf_7_19 X rfl (x_dr DX7_sortsBy 33 rfl) ?_
  refine r_iload_n X (x_dr DX7_sortsBy 34 rfl) 1 rfl rfl ?_
  refine r_iload_n X (x_dr DX7_sortsBy 35 rfl) 2 rfl rfl ?_
  obtain ⟨b17, h⟩ := h
  refine r_iast X rfl rfl b17 (x_dr DX7_sortsBy 36 rfl) ?_
  refine r_nmS (fun s18 es18 => ?_)
  replace h := h s18 es18
  refine r_iload_n X (x_dr DX7_sortsBy 37 rfl) 3 rfl rfl ?_
  exact r_iret X rfl (x_dr DX7_sortsBy 38 rfl) ⟨_, rfl, h⟩
set_option maxRecDepth 10000 in
theorem k7_sort {ad : xAd} {G : xG} {l : Launch} {a1 : Int32} {σ : xSt} {Q : Int32 → xSt → Prop}  (h : d7_sort a1 σ Q) : MC ad G l yX7_sort cX7_sort 2 (some .int) 9 201 [.ref (ad 13 0 0), .int a1] σ (qI Q) := by
  unfold d7_sort at h
  refine x_MC [(0, .ref (ad 13 0 0)), (1, .int a1)] (by decide +kernel) rfl (Nat.le_of_ble_eq_true rfl) ?_
  intro E hG hl X
  replace X : FX ad E cX7_sort 2 RX7 (some .int) 9 201 := X
  refine r_aload_n X (x_dr DX7_sort 0 rfl) 0 rfl rfl ?_
  refine r_iload_n X (x_dr DX7_sort 1 rfl) 1 rfl rfl ?_
  refine cl7_isMember X (k7_isMember h) rfl ml_7_160 ⟨Nat.le_of_ble_eq_true rfl, Nat.le_of_ble_eq_true rfl⟩ (Nat.le_of_ble_eq_true rfl) (x_dr DX7_sort 2 rfl) (fun v2 s1 zv2 h => ?_)
  refine r_if_eq X 16 (x_dr DX7_sort 3 rfl) (by decide) (fun c3 => ?_) (fun c3 => ?_)
  · replace h := h.1 c3
    refine r_bipush (v := (-2)) X (x_dr DX7_sort 8 rfl) (by decide) ?_
    exact r_iret X rfl (x_dr DX7_sort 9 rfl) ⟨_, rfl, h⟩
  · replace h := h.2 c3
    refine r_aload_n X (x_dr DX7_sort 4 rfl) 0 rfl rfl ?_
    refine r_iload_n X (x_dr DX7_sort 5 rfl) 1 rfl rfl ?_
    refine cl7_sortsBy X (k7_sortsBy h) rfl ml_7_307 ⟨Nat.le_of_ble_eq_true rfl, Nat.le_of_ble_eq_true rfl⟩ (Nat.le_of_ble_eq_true rfl) (x_dr DX7_sort 6 rfl) (fun v5 s4 h => ?_)
    refine r_goto X 18 (x_dr DX7_sort 7 rfl) (by decide) ?_
    exact r_iret X rfl (x_dr DX7_sort 9 rfl) ⟨_, rfl, h⟩
set_option maxRecDepth 10000 in
theorem w7_wetBy_L52 {ad : xAd} {E : xE} (X : FX ad E cX7_wetBy 6 RX7 (some .int) 8 177)   {a1 : Int32} {a2 : Int32} {a3 : Int32} {a4 : Int32} {K : xSt → Prop} {Q : Int32 → xSt → Prop} : ∀ (n : Nat) (a5 : Int32) (σ : xSt), d7_wetBy_L52 a1 a2 a3 a4 K Q n a5 σ → (∀ (s : xSt), K  s → KK ad E (qI Q) 90 ([(0, .ref (ad 13 0 0)), (1, .int a1), (2, .int a2), (3, .int a3), (4, .int a4)]) [] s) → KK ad E (qI Q) 52 ([(0, .ref (ad 13 0 0)), (1, .int a1), (2, .int a2), (3, .int a3), (4, .int a4), (5, .int a5)]) [] σ := by
  intro n
  induction n with
  | zero => intro a5 σ h kk; exact h.elim
  | succ n ih =>
    intro a5 σ h kk
    rw [d7_wetBy_L52] at h
    refine r_iload X (x_dr DX7_wetBy 32 rfl) 5 rfl ?_
    refine r_bipush (v := 20) X (x_dr DX7_wetBy 33 rfl) (by decide) ?_
    refine r_icmp_ge X 90 (x_dr DX7_wetBy 34 rfl) (by decide) (fun c13 => ?_) (fun c13 => ?_)
    · replace h := h.1 c13
      refine r_norm X [0, 1, 2, 3, 4] ([(0, .ref (ad 13 0 0)), (1, .int a1), (2, .int a2), (3, .int a3), (4, .int a4)]) rfl ?_
      exact kk  _ h
    · replace h := h.2 c13
      refine r_aload_n X (x_dr DX7_wetBy 35 rfl) 0 rfl rfl ?_
      refine gf_7_94 X rfl (x_dr DX7_wetBy 36 rfl) ?_
      refine r_bipush (v := 20) X (x_dr DX7_wetBy 37 rfl) (by decide) ?_
      refine r_iload X (x_dr DX7_wetBy 38 rfl) 4 rfl ?_
      refine r_imul X (x_dr DX7_wetBy 39 rfl) ?_
      refine r_iload X (x_dr DX7_wetBy 40 rfl) 5 rfl ?_
      refine r_iadd X (x_dr DX7_wetBy 41 rfl) ?_
      refine r_aload_n X (x_dr DX7_wetBy 42 rfl) 0 rfl rfl ?_
      refine gf_7_61 X rfl (x_dr DX7_wetBy 43 rfl) ?_
      refine r_bipush (v := 12) X (x_dr DX7_wetBy 44 rfl) (by decide) ?_
      refine r_iload X (x_dr DX7_wetBy 45 rfl) 5 rfl ?_
      refine r_imul X (x_dr DX7_wetBy 46 rfl) ?_
      refine r_iload_n X (x_dr DX7_wetBy 47 rfl) 1 rfl rfl ?_
      refine r_iadd X (x_dr DX7_wetBy 48 rfl) ?_
      obtain ⟨b14, h⟩ := h
      refine r_iald X rfl rfl b14 (x_dr DX7_wetBy 49 rfl) ?_
      obtain ⟨b15, h⟩ := h
      refine r_iast X rfl rfl b15 (x_dr DX7_wetBy 50 rfl) ?_
      refine r_nmS (fun s16 es16 => ?_)
      replace h := h s16 es16
      obtain ⟨v17, ev17⟩ : ∃ z : Int32, z = a5 + 1 := ⟨_, rfl⟩
      replace h := h v17 ev17
      refine r_iinc (v := v17) X ([(5, .int v17), (0, .ref (ad 13 0 0)), (1, .int a1), (2, .int a2), (3, .int a3), (4, .int a4)]) 5 (x_dr DX7_wetBy 51 rfl) rfl (by rw [ev17]; rfl) (by decide) rfl ?_
      refine r_goto X 52 (x_dr DX7_wetBy 52 rfl) (by decide) ?_
      refine r_norm X [1, 2, 3, 4, 5, 0] ([(0, .ref (ad 13 0 0)), (1, .int a1), (2, .int a2), (3, .int a3), (4, .int a4), (5, .int v17)]) rfl ?_
      exact ih _ _ h kk
set_option maxRecDepth 10000 in
theorem w7_wetBy_L16 {ad : xAd} {E : xE} (X : FX ad E cX7_wetBy 6 RX7 (some .int) 8 177)   {a1 : Int32} {a2 : Int32} {K : Int32 → xSt → Prop} {Q : Int32 → xSt → Prop} : ∀ (n : Nat) (a3 : Int32) (a4 : Int32) (σ : xSt), d7_wetBy_L16 a1 a2 K Q n a3 a4 σ → (∀ (a3 : Int32) (s : xSt), K a3 s → KK ad E (qI Q) 96 ([(0, .ref (ad 13 0 0)), (1, .int a1), (2, .int a2), (3, .int a3)]) [] s) → KK ad E (qI Q) 16 ([(0, .ref (ad 13 0 0)), (1, .int a1), (2, .int a2), (3, .int a3), (4, .int a4)]) [] σ := by
  intro n
  induction n with
  | zero => intro a3 a4 σ h kk; exact h.elim
  | succ n ih =>
    intro a3 a4 σ h kk
    rw [d7_wetBy_L16] at h
    refine r_iload X (x_dr DX7_wetBy 11 rfl) 4 rfl ?_
    refine r_bipush (v := 10) X (x_dr DX7_wetBy 12 rfl) (by decide) ?_
    refine r_icmp_ge X 96 (x_dr DX7_wetBy 13 rfl) (by decide) (fun c4 => ?_) (fun c4 => ?_)
    · replace h := h.1 c4
      refine r_norm X [0, 1, 2, 3] ([(0, .ref (ad 13 0 0)), (1, .int a1), (2, .int a2), (3, .int a3)]) rfl ?_
      exact kk _ _ h
    · replace h := h.2 c4
      refine r_aload_n X (x_dr DX7_wetBy 14 rfl) 0 rfl rfl ?_
      refine gf_7_16 X rfl (x_dr DX7_wetBy 15 rfl) ?_
      refine r_iload_n X (x_dr DX7_wetBy 16 rfl) 1 rfl rfl ?_
      refine r_iload X (x_dr DX7_wetBy 17 rfl) 4 rfl ?_
      obtain ⟨b5, h⟩ := h
      refine r_iast X rfl rfl b5 (x_dr DX7_wetBy 18 rfl) ?_
      refine r_nmS (fun s6 es6 => ?_)
      replace h := h s6 es6
      refine r_iload_n X (x_dr DX7_wetBy 19 rfl) 3 rfl rfl ?_
      refine r_aload_n X (x_dr DX7_wetBy 20 rfl) 0 rfl rfl ?_
      refine cl7_isSeen X (k7_isSeen h) rfl ml_7_300 ⟨Nat.le_of_ble_eq_true rfl, Nat.le_of_ble_eq_true rfl⟩ (Nat.le_of_ble_eq_true rfl) (x_dr DX7_wetBy 21 rfl) (fun v8 s7 zv8 h => ?_)
      obtain ⟨j11, ej11, h⟩ := x_jn h
      have Jj11 : ∀ (v10 : Int32), j11 v10 → KK ad E (qI Q) 47 ([(0, .ref (ad 13 0 0)), (1, .int a1), (2, .int a2), (4, .int a4)]) [.int v10, .int a3] s7 := by
        intro v10 h
        rw [ej11] at h
        refine r_ior X (x_dr DX7_wetBy 28 rfl) ?_
        refine r_nmI (fun v12 ev12 => ?_)
        replace h := h v12 ev12
        refine r_istore_n X ([(3, .int v12), (0, .ref (ad 13 0 0)), (1, .int a1), (2, .int a2), (4, .int a4)]) (x_dr DX7_wetBy 29 rfl) rfl (by decide) rfl ?_
        refine r_iconst (v := 0) X (x_dr DX7_wetBy 30 rfl) (by decide) ?_
        refine r_istore X ([(5, .int 0), (3, .int v12), (0, .ref (ad 13 0 0)), (1, .int a1), (2, .int a2), (4, .int a4)]) (x_dr DX7_wetBy 31 rfl) (by decide) rfl ?_
        refine r_norm X [2, 3, 4, 1, 5, 0] ([(0, .ref (ad 13 0 0)), (1, .int a1), (2, .int a2), (3, .int v12), (4, .int a4), (5, .int 0)]) rfl ?_
        refine w7_wetBy_L52 X  _ _ _ h (fun s18 h => ?_)
        obtain ⟨v19, ev19⟩ : ∃ z : Int32, z = a4 + 1 := ⟨_, rfl⟩
        replace h := h v19 ev19
        refine r_iinc (v := v19) X ([(4, .int v19), (0, .ref (ad 13 0 0)), (1, .int a1), (2, .int a2), (3, .int v12)]) 4 (x_dr DX7_wetBy 53 rfl) rfl (by rw [ev19]; rfl) (by decide) rfl ?_
        refine r_goto X 16 (x_dr DX7_wetBy 54 rfl) (by decide) ?_
        refine r_norm X [1, 2, 3, 4, 0] ([(0, .ref (ad 13 0 0)), (1, .int a1), (2, .int a2), (3, .int v12), (4, .int v19)]) rfl ?_
        exact ih _ _ _ h kk
      refine r_if_eq X 46 (x_dr DX7_wetBy 22 rfl) (by decide) (fun c20 => ?_) (fun c20 => ?_)
      · replace h := h.1 c20
        refine r_iconst (v := 0) X (x_dr DX7_wetBy 27 rfl) (by decide) ?_
        refine r_norm X [0, 1, 2, 4] ([(0, .ref (ad 13 0 0)), (1, .int a1), (2, .int a2), (4, .int a4)]) rfl ?_
        exact Jj11 _ h
      · replace h := h.2 c20
        refine r_iconst (v := 1) X (x_dr DX7_wetBy 23 rfl) (by decide) ?_
        refine r_iload X (x_dr DX7_wetBy 24 rfl) 4 rfl ?_
        refine r_ishl X (x_dr DX7_wetBy 25 rfl) ?_
        refine r_goto X 47 (x_dr DX7_wetBy 26 rfl) (by decide) ?_
        refine r_norm X [0, 1, 2, 4] ([(0, .ref (ad 13 0 0)), (1, .int a1), (2, .int a2), (4, .int a4)]) rfl ?_
        exact Jj11 _ h
set_option maxRecDepth 10000 in
theorem k7_wetBy {ad : xAd} {G : xG} {l : Launch} {a1 : Int32} {σ : xSt} {Q : Int32 → xSt → Prop}  (h : d7_wetBy a1 σ Q) : MC ad G l yX7_wetBy cX7_wetBy 6 (some .int) 8 177 [.ref (ad 13 0 0), .int a1] σ (qI Q) := by
  unfold d7_wetBy at h
  refine x_MC [(0, .ref (ad 13 0 0)), (1, .int a1)] (by decide +kernel) rfl (Nat.le_of_ble_eq_true rfl) ?_
  intro E hG hl X
  replace X : FX ad E cX7_wetBy 6 RX7 (some .int) 8 177 := X
  refine r_aload_n X (x_dr DX7_wetBy 0 rfl) 0 rfl rfl ?_
  refine cl7_asTold X (k7_asTold h) rfl ml_7_233 ⟨Nat.le_of_ble_eq_true rfl, Nat.le_of_ble_eq_true rfl⟩ (Nat.le_of_ble_eq_true rfl) (x_dr DX7_wetBy 1 rfl) (fun s1 h => ?_)
  refine r_aload_n X (x_dr DX7_wetBy 2 rfl) 0 rfl rfl ?_
  refine gf_7_16 X rfl (x_dr DX7_wetBy 3 rfl) ?_
  refine r_iload_n X (x_dr DX7_wetBy 4 rfl) 1 rfl rfl ?_
  obtain ⟨b2, h⟩ := h
  refine r_iald X rfl rfl b2 (x_dr DX7_wetBy 5 rfl) ?_
  refine r_nmI (fun v3 ev3 => ?_)
  replace h := h v3 ev3
  refine r_istore_n X ([(2, .int v3), (0, .ref (ad 13 0 0)), (1, .int a1)]) (x_dr DX7_wetBy 6 rfl) rfl (by decide) rfl ?_
  refine r_iconst (v := 0) X (x_dr DX7_wetBy 7 rfl) (by decide) ?_
  refine r_istore_n X ([(3, .int 0), (2, .int v3), (0, .ref (ad 13 0 0)), (1, .int a1)]) (x_dr DX7_wetBy 8 rfl) rfl (by decide) rfl ?_
  refine r_iconst (v := 0) X (x_dr DX7_wetBy 9 rfl) (by decide) ?_
  refine r_istore X ([(4, .int 0), (3, .int 0), (2, .int v3), (0, .ref (ad 13 0 0)), (1, .int a1)]) (x_dr DX7_wetBy 10 rfl) (by decide) rfl ?_
  refine r_norm X [3, 4, 2, 1, 0] ([(0, .ref (ad 13 0 0)), (1, .int a1), (2, .int v3), (3, .int 0), (4, .int 0)]) rfl ?_
  refine w7_wetBy_L16 X  _ _ _ _ h (fun v22 s21 h => ?_)
  refine r_aload_n X (x_dr DX7_wetBy 55 rfl) 0 rfl rfl ?_
  refine gf_7_16 X rfl (x_dr DX7_wetBy 56 rfl) ?_
  refine r_iload_n X (x_dr DX7_wetBy 57 rfl) 1 rfl rfl ?_
  refine r_iload_n X (x_dr DX7_wetBy 58 rfl) 2 rfl rfl ?_
  obtain ⟨b23, h⟩ := h
  refine r_iast X rfl rfl b23 (x_dr DX7_wetBy 59 rfl) ?_
  refine r_nmS (fun s24 es24 => ?_)
  replace h := h s24 es24
  refine r_iload_n X (x_dr DX7_wetBy 60 rfl) 3 rfl rfl ?_
  exact r_iret X rfl (x_dr DX7_wetBy 61 rfl) ⟨_, rfl, h⟩
set_option maxRecDepth 10000 in
theorem k7_wet {ad : xAd} {G : xG} {l : Launch} {a1 : Int32} {σ : xSt} {Q : Int32 → xSt → Prop}  (h : d7_wet a1 σ Q) : MC ad G l yX7_wet cX7_wet 2 (some .int) 9 202 [.ref (ad 13 0 0), .int a1] σ (qI Q) := by
  unfold d7_wet at h
  refine x_MC [(0, .ref (ad 13 0 0)), (1, .int a1)] (by decide +kernel) rfl (Nat.le_of_ble_eq_true rfl) ?_
  intro E hG hl X
  replace X : FX ad E cX7_wet 2 RX7 (some .int) 9 202 := X
  refine r_iload_n X (x_dr DX7_wet 0 rfl) 1 rfl rfl ?_
  refine cl7_isPlace X (k7_isPlace h) ml_7_154 ⟨Nat.le_of_ble_eq_true rfl, Nat.le_of_ble_eq_true rfl⟩ (Nat.le_of_ble_eq_true rfl) (x_dr DX7_wet 1 rfl) (fun v2 s1 zv2 h => ?_)
  refine r_if_eq X 15 (x_dr DX7_wet 2 rfl) (by decide) (fun c3 => ?_) (fun c3 => ?_)
  · replace h := h.1 c3
    refine r_bipush (v := (-2)) X (x_dr DX7_wet 7 rfl) (by decide) ?_
    exact r_iret X rfl (x_dr DX7_wet 8 rfl) ⟨_, rfl, h⟩
  · replace h := h.2 c3
    refine r_aload_n X (x_dr DX7_wet 3 rfl) 0 rfl rfl ?_
    refine r_iload_n X (x_dr DX7_wet 4 rfl) 1 rfl rfl ?_
    refine cl7_wetBy X (k7_wetBy h) rfl ml_7_310 ⟨Nat.le_of_ble_eq_true rfl, Nat.le_of_ble_eq_true rfl⟩ (Nat.le_of_ble_eq_true rfl) (x_dr DX7_wet 5 rfl) (fun v5 s4 h => ?_)
    refine r_goto X 17 (x_dr DX7_wet 6 rfl) (by decide) ?_
    exact r_iret X rfl (x_dr DX7_wet 8 rfl) ⟨_, rfl, h⟩
set_option maxRecDepth 10000 in
theorem w7_askOf_L40 {ad : xAd} {E : xE} (X : FX ad E cX7_askOf 10 RX7 (some .int) 9 202)   {a2 : Int32} {a3 : Int32} {a4 : Int32} {a5 : Int32} {a6 : Int32} {a7 : Int32} {K : Int32 → xSt → Prop} {Q : Int32 → xSt → Prop} : ∀ (n : Nat) (a8 : Int32) (a9 : Int32) (σ : xSt), d7_askOf_L40 a2 a3 a4 a5 a6 a7 K Q n a8 a9 σ → (∀ (a8 : Int32) (s : xSt), K a8 s → KK ad E (qI Q) 110 ([(0, .ref (ad 13 0 0)), (2, .int a2), (3, .int a3), (4, .int a4), (5, .int a5), (6, .int a6), (7, .int a7), (8, .int a8)]) [] s) → KK ad E (qI Q) 40 ([(0, .ref (ad 13 0 0)), (2, .int a2), (3, .int a3), (4, .int a4), (5, .int a5), (6, .int a6), (7, .int a7), (8, .int a8), (9, .int a9)]) [] σ := by
  intro n
  induction n with
  | zero => intro a8 a9 σ h kk; exact h.elim
  | succ n ih =>
    intro a8 a9 σ h kk
    rw [d7_askOf_L40] at h
    refine r_iload X (x_dr DX7_askOf 24 rfl) 8 rfl ?_
    refine r_bipush (v := 10) X (x_dr DX7_askOf 25 rfl) (by decide) ?_
    refine r_icmp_ge X 110 (x_dr DX7_askOf 26 rfl) (by decide) (fun c5 => ?_) (fun c5 => ?_)
    · replace h := h.1 c5
      refine r_norm X [0, 1, 2, 3, 4, 5, 6, 7] ([(0, .ref (ad 13 0 0)), (2, .int a2), (3, .int a3), (4, .int a4), (5, .int a5), (6, .int a6), (7, .int a7), (8, .int a8)]) rfl ?_
      exact kk _ _ h
    · replace h := h.2 c5
      refine r_iload X (x_dr DX7_askOf 27 rfl) 7 rfl ?_
      refine r_iload_n X (x_dr DX7_askOf 28 rfl) 1 rfl rfl ?_
      refine r_iload X (x_dr DX7_askOf 29 rfl) 6 rfl ?_
      refine cl7_isIn X (k7_isIn h) ml_7_215 ⟨Nat.le_of_ble_eq_true rfl, Nat.le_of_ble_eq_true rfl⟩ (Nat.le_of_ble_eq_true rfl) (x_dr DX7_askOf 30 rfl) (fun v7 s6 zv7 h => ?_)
      obtain ⟨j17, ej17, h⟩ := x_jn h
      have Jj17 : ∀ (v15 : Int32) (s16 : xSt), j17 v15 s16 → KK ad E (qI Q) 101 ([(0, .ref (ad 13 0 0)), (2, .int a2), (3, .int a3), (4, .int a4), (5, .int a5), (6, .int a6), (7, .int a7), (9, .int a9)]) [.int v15, .int a8] s16 := by
        intro v15 s16 h
        rw [ej17] at h
        refine r_iadd X (x_dr DX7_askOf 56 rfl) ?_
        refine r_nmI (fun v18 ev18 => ?_)
        replace h := h v18 ev18
        refine r_istore X ([(8, .int v18), (0, .ref (ad 13 0 0)), (2, .int a2), (3, .int a3), (4, .int a4), (5, .int a5), (6, .int a6), (7, .int a7), (9, .int a9)]) (x_dr DX7_askOf 57 rfl) (by decide) rfl ?_
        obtain ⟨v19, ev19⟩ : ∃ z : Int32, z = a9 + 1 := ⟨_, rfl⟩
        replace h := h v19 ev19
        refine r_iinc (v := v19) X ([(9, .int v19), (8, .int v18), (0, .ref (ad 13 0 0)), (2, .int a2), (3, .int a3), (4, .int a4), (5, .int a5), (6, .int a6), (7, .int a7)]) 8 (x_dr DX7_askOf 58 rfl) rfl (by rw [ev19]; rfl) (by decide) rfl ?_
        refine r_goto X 40 (x_dr DX7_askOf 59 rfl) (by decide) ?_
        refine r_norm X [2, 3, 4, 5, 6, 7, 8, 1, 0] ([(0, .ref (ad 13 0 0)), (2, .int a2), (3, .int a3), (4, .int a4), (5, .int a5), (6, .int a6), (7, .int a7), (8, .int v18), (9, .int v19)]) rfl ?_
        exact ih _ _ _ h kk
      refine r_if_eq X 100 (x_dr DX7_askOf 31 rfl) (by decide) (fun c20 => ?_) (fun c20 => ?_)
      · replace h := h.1 c20
        refine r_iconst (v := 0) X (x_dr DX7_askOf 55 rfl) (by decide) ?_
        refine r_norm X [0, 1, 2, 3, 4, 5, 6, 8] ([(0, .ref (ad 13 0 0)), (2, .int a2), (3, .int a3), (4, .int a4), (5, .int a5), (6, .int a6), (7, .int a7), (9, .int a9)]) rfl ?_
        exact Jj17 _ _ h
      · replace h := h.2 c20
        refine r_iload_n X (x_dr DX7_askOf 32 rfl) 1 rfl rfl ?_
        refine r_iload X (x_dr DX7_askOf 33 rfl) 8 rfl ?_
        refine cl7_isIn X (k7_isIn h) ml_7_215 ⟨Nat.le_of_ble_eq_true rfl, Nat.le_of_ble_eq_true rfl⟩ (Nat.le_of_ble_eq_true rfl) (x_dr DX7_askOf 34 rfl) (fun v22 s21 zv22 h => ?_)
        refine r_if_eq X 100 (x_dr DX7_askOf 35 rfl) (by decide) (fun c23 => ?_) (fun c23 => ?_)
        · replace h := h.1 c23
          refine r_iconst (v := 0) X (x_dr DX7_askOf 55 rfl) (by decide) ?_
          refine r_norm X [0, 1, 2, 3, 4, 5, 6, 8] ([(0, .ref (ad 13 0 0)), (2, .int a2), (3, .int a3), (4, .int a4), (5, .int a5), (6, .int a6), (7, .int a7), (9, .int a9)]) rfl ?_
          exact Jj17 _ _ h
        · replace h := h.2 c23
          refine r_aload_n X (x_dr DX7_askOf 36 rfl) 0 rfl rfl ?_
          refine gf_7_94 X rfl (x_dr DX7_askOf 37 rfl) ?_
          refine r_bipush (v := 20) X (x_dr DX7_askOf 38 rfl) (by decide) ?_
          refine r_iload X (x_dr DX7_askOf 39 rfl) 6 rfl ?_
          refine r_imul X (x_dr DX7_askOf 40 rfl) ?_
          refine r_iload X (x_dr DX7_askOf 41 rfl) 4 rfl ?_
          refine r_iadd X (x_dr DX7_askOf 42 rfl) ?_
          obtain ⟨b24, h⟩ := h
          refine r_iald X rfl rfl b24 (x_dr DX7_askOf 43 rfl) ?_
          refine r_aload_n X (x_dr DX7_askOf 44 rfl) 0 rfl rfl ?_
          refine gf_7_94 X rfl (x_dr DX7_askOf 45 rfl) ?_
          refine r_bipush (v := 20) X (x_dr DX7_askOf 46 rfl) (by decide) ?_
          refine r_iload X (x_dr DX7_askOf 47 rfl) 8 rfl ?_
          refine r_imul X (x_dr DX7_askOf 48 rfl) ?_
          refine r_iload X (x_dr DX7_askOf 49 rfl) 4 rfl ?_
          refine r_iadd X (x_dr DX7_askOf 50 rfl) ?_
          obtain ⟨b25, h⟩ := h
          refine r_iald X rfl rfl b25 (x_dr DX7_askOf 51 rfl) ?_
          refine r_icmp_ne X 100 (x_dr DX7_askOf 52 rfl) (by decide) (fun c26 => ?_) (fun c26 => ?_)
          · replace h := h.1 c26
            refine r_iconst (v := 0) X (x_dr DX7_askOf 55 rfl) (by decide) ?_
            refine r_norm X [0, 1, 2, 3, 4, 5, 6, 8] ([(0, .ref (ad 13 0 0)), (2, .int a2), (3, .int a3), (4, .int a4), (5, .int a5), (6, .int a6), (7, .int a7), (9, .int a9)]) rfl ?_
            exact Jj17 _ _ h
          · replace h := h.2 c26
            refine r_iconst (v := 1) X (x_dr DX7_askOf 53 rfl) (by decide) ?_
            refine r_goto X 101 (x_dr DX7_askOf 54 rfl) (by decide) ?_
            refine r_norm X [0, 1, 2, 3, 4, 5, 6, 8] ([(0, .ref (ad 13 0 0)), (2, .int a2), (3, .int a3), (4, .int a4), (5, .int a5), (6, .int a6), (7, .int a7), (9, .int a9)]) rfl ?_
            exact Jj17 _ _ h
set_option maxRecDepth 10000 in
theorem w7_askOf_L27 {ad : xAd} {E : xE} (X : FX ad E cX7_askOf 10 RX7 (some .int) 9 202)   {a2 : Int32} {a3 : Int32} {a4 : Int32} {a5 : Int32} {K : Int32 → xSt → Prop} {Q : Int32 → xSt → Prop} : ∀ (n : Nat) (a6 : Int32) (a7 : Int32) (σ : xSt), d7_askOf_L27 a2 a3 a4 a5 K Q n a6 a7 σ → (∀ (a6 : Int32) (s : xSt), K a6 s → KK ad E (qI Q) 132 ([(0, .ref (ad 13 0 0)), (2, .int a2), (3, .int a3), (4, .int a4), (5, .int a5), (6, .int a6)]) [] s) → KK ad E (qI Q) 27 ([(0, .ref (ad 13 0 0)), (2, .int a2), (3, .int a3), (4, .int a4), (5, .int a5), (6, .int a6), (7, .int a7)]) [] σ := by
  intro n
  induction n with
  | zero => intro a6 a7 σ h kk; exact h.elim
  | succ n ih =>
    intro a6 a7 σ h kk
    rw [d7_askOf_L27] at h
    refine r_iload X (x_dr DX7_askOf 17 rfl) 6 rfl ?_
    refine r_bipush (v := 10) X (x_dr DX7_askOf 18 rfl) (by decide) ?_
    refine r_icmp_ge X 132 (x_dr DX7_askOf 19 rfl) (by decide) (fun c4 => ?_) (fun c4 => ?_)
    · replace h := h.1 c4
      refine r_norm X [0, 1, 2, 3, 4, 5] ([(0, .ref (ad 13 0 0)), (2, .int a2), (3, .int a3), (4, .int a4), (5, .int a5), (6, .int a6)]) rfl ?_
      exact kk _ _ h
    · replace h := h.2 c4
      refine r_iconst (v := 0) X (x_dr DX7_askOf 20 rfl) (by decide) ?_
      refine r_istore X ([(8, .int 0), (0, .ref (ad 13 0 0)), (2, .int a2), (3, .int a3), (4, .int a4), (5, .int a5), (6, .int a6), (7, .int a7)]) (x_dr DX7_askOf 21 rfl) (by decide) rfl ?_
      refine r_iconst (v := 0) X (x_dr DX7_askOf 22 rfl) (by decide) ?_
      refine r_istore X ([(9, .int 0), (8, .int 0), (0, .ref (ad 13 0 0)), (2, .int a2), (3, .int a3), (4, .int a4), (5, .int a5), (6, .int a6), (7, .int a7)]) (x_dr DX7_askOf 23 rfl) (by decide) rfl ?_
      refine r_norm X [2, 3, 4, 5, 6, 7, 8, 1, 0] ([(0, .ref (ad 13 0 0)), (2, .int a2), (3, .int a3), (4, .int a4), (5, .int a5), (6, .int a6), (7, .int a7), (8, .int 0), (9, .int 0)]) rfl ?_
      refine w7_askOf_L40 X  _ _ _ _ h (fun v28 s27 h => ?_)
      refine r_iload X (x_dr DX7_askOf 60 rfl) 7 rfl ?_
      refine r_iload X (x_dr DX7_askOf 61 rfl) 5 rfl ?_
      refine r_icmp_le X 122 (x_dr DX7_askOf 62 rfl) (by decide) (fun c29 => ?_) (fun c29 => ?_)
      · replace h := h.1 c29
        refine r_iload X (x_dr DX7_askOf 65 rfl) 5 rfl ?_
        refine r_istore X ([(6, .int a6), (0, .ref (ad 13 0 0)), (2, .int a2), (3, .int a3), (4, .int a4), (5, .int a5), (7, .int a7), (8, .int v28)]) (x_dr DX7_askOf 66 rfl) (by decide) rfl ?_
        obtain ⟨v30, ev30⟩ : ∃ z : Int32, z = a7 + 1 := ⟨_, rfl⟩
        replace h := h v30 ev30
        refine r_iinc (v := v30) X ([(7, .int v30), (6, .int a6), (0, .ref (ad 13 0 0)), (2, .int a2), (3, .int a3), (4, .int a4), (5, .int a5), (8, .int v28)]) 6 (x_dr DX7_askOf 67 rfl) rfl (by rw [ev30]; rfl) (by decide) rfl ?_
        refine r_goto X 27 (x_dr DX7_askOf 68 rfl) (by decide) ?_
        refine r_norm X [2, 3, 4, 5, 6, 1, 0] ([(0, .ref (ad 13 0 0)), (2, .int a2), (3, .int a3), (4, .int a4), (5, .int a5), (6, .int a6), (7, .int v30)]) rfl ?_
        exact ih _ _ _ h kk
      · replace h := h.2 c29
        refine r_iload X (x_dr DX7_askOf 63 rfl) 7 rfl ?_
        refine r_goto X 124 (x_dr DX7_askOf 64 rfl) (by decide) ?_
        refine r_istore X ([(6, .int v28), (0, .ref (ad 13 0 0)), (2, .int a2), (3, .int a3), (4, .int a4), (5, .int a5), (7, .int a7), (8, .int v28)]) (x_dr DX7_askOf 66 rfl) (by decide) rfl ?_
        obtain ⟨v31, ev31⟩ : ∃ z : Int32, z = a7 + 1 := ⟨_, rfl⟩
        replace h := h v31 ev31
        refine r_iinc (v := v31) X ([(7, .int v31), (6, .int v28), (0, .ref (ad 13 0 0)), (2, .int a2), (3, .int a3), (4, .int a4), (5, .int a5), (8, .int v28)]) 6 (x_dr DX7_askOf 67 rfl) rfl (by rw [ev31]; rfl) (by decide) rfl ?_
        refine r_goto X 27 (x_dr DX7_askOf 68 rfl) (by decide) ?_
        refine r_norm X [2, 3, 4, 5, 6, 1, 0] ([(0, .ref (ad 13 0 0)), (2, .int a2), (3, .int a3), (4, .int a4), (5, .int a5), (6, .int v28), (7, .int v31)]) rfl ?_
        exact ih _ _ _ h kk
set_option maxRecDepth 10000 in
theorem w7_askOf_L14 {ad : xAd} {E : xE} (X : FX ad E cX7_askOf 10 RX7 (some .int) 9 202)   {a2 : Int32} {K : Int32 → xSt → Prop} {Q : Int32 → xSt → Prop} : ∀ (n : Nat) (a3 : Int32) (a4 : Int32) (a5 : Int32) (σ : xSt), d7_askOf_L14 a2 K Q n a3 a4 a5 σ → (∀ (a3 : Int32) (s : xSt), K a3 s → KK ad E (qI Q) 183 ([(3, .int a3)]) [] s) → KK ad E (qI Q) 14 ([(0, .ref (ad 13 0 0)), (2, .int a2), (3, .int a3), (4, .int a4), (5, .int a5)]) [] σ := by
  intro n
  induction n with
  | zero => intro a3 a4 a5 σ h kk; exact h.elim
  | succ n ih =>
    intro a3 a4 a5 σ h kk
    rw [d7_askOf_L14] at h
    refine r_iload X (x_dr DX7_askOf 10 rfl) 4 rfl ?_
    refine r_bipush (v := 20) X (x_dr DX7_askOf 11 rfl) (by decide) ?_
    refine r_icmp_ge X 183 (x_dr DX7_askOf 12 rfl) (by decide) (fun c3 => ?_) (fun c3 => ?_)
    · replace h := h.1 c3
      refine r_norm X [2] ([(3, .int a3)]) rfl ?_
      exact kk _ _ h
    · replace h := h.2 c3
      refine r_iconst (v := 0) X (x_dr DX7_askOf 13 rfl) (by decide) ?_
      refine r_istore X ([(6, .int 0), (0, .ref (ad 13 0 0)), (2, .int a2), (3, .int a3), (4, .int a4), (5, .int a5)]) (x_dr DX7_askOf 14 rfl) (by decide) rfl ?_
      refine r_iconst (v := 0) X (x_dr DX7_askOf 15 rfl) (by decide) ?_
      refine r_istore X ([(7, .int 0), (6, .int 0), (0, .ref (ad 13 0 0)), (2, .int a2), (3, .int a3), (4, .int a4), (5, .int a5)]) (x_dr DX7_askOf 16 rfl) (by decide) rfl ?_
      refine r_norm X [2, 3, 4, 5, 6, 1, 0] ([(0, .ref (ad 13 0 0)), (2, .int a2), (3, .int a3), (4, .int a4), (5, .int a5), (6, .int 0), (7, .int 0)]) rfl ?_
      refine w7_askOf_L27 X  _ _ _ _ h (fun v33 s32 h => ?_)
      refine r_iload_n X (x_dr DX7_askOf 69 rfl) 2 rfl rfl ?_
      refine r_iconst (v := (-1)) X (x_dr DX7_askOf 70 rfl) (by decide) ?_
      obtain ⟨j37, ej37, h⟩ := x_jn h
      have Jj37 : ∀ (v36 : Int32), j37 v36 → KK ad E (qI Q) 149 ([(0, .ref (ad 13 0 0)), (2, .int a2), (3, .int a3), (4, .int a4), (5, .int a5), (6, .int v33)]) [.int v36] s32 := by
        intro v36 h
        rw [ej37] at h
        refine r_istore X ([(7, .int v36), (0, .ref (ad 13 0 0)), (2, .int a2), (3, .int a3), (4, .int a4), (5, .int a5), (6, .int v33)]) (x_dr DX7_askOf 78 rfl) (by decide) rfl ?_
        refine r_iload X (x_dr DX7_askOf 79 rfl) 0 rfl ?_
        obtain ⟨j40, ej40, h⟩ := x_jn h
        have Jj40 : ∀ (v39 : Int32), j40 v39 → KK ad E (qI Q) 162 ([(0, .ref (ad 13 0 0)), (2, .int a2), (4, .int a4), (5, .int a5), (6, .int v33), (7, .int v36)]) [.int v39] s32 := by
          intro v39 h
          rw [ej40] at h
          refine r_istore_n X ([(3, .int v39), (0, .ref (ad 13 0 0)), (2, .int a2), (4, .int a4), (5, .int a5), (6, .int v33), (7, .int v36)]) (x_dr DX7_askOf 84 rfl) rfl (by decide) rfl ?_
          refine r_iload X (x_dr DX7_askOf 85 rfl) 6 rfl ?_
          refine r_if_eq X 173 (x_dr DX7_askOf 86 rfl) (by decide) (fun c41 => ?_) (fun c41 => ?_)
          · replace h := h.1 c41
            refine r_iload X (x_dr DX7_askOf 89 rfl) 3 rfl ?_
            refine r_istore X ([(4, .int a4), (3, .int v39), (0, .ref (ad 13 0 0)), (2, .int a2), (5, .int a5), (6, .int v33), (7, .int v36)]) (x_dr DX7_askOf 90 rfl) (by decide) rfl ?_
            obtain ⟨v42, ev42⟩ : ∃ z : Int32, z = a5 + 1 := ⟨_, rfl⟩
            replace h := h v42 ev42
            refine r_iinc (v := v42) X ([(5, .int v42), (4, .int a4), (3, .int v39), (0, .ref (ad 13 0 0)), (2, .int a2), (6, .int v33), (7, .int v36)]) 4 (x_dr DX7_askOf 91 rfl) rfl (by rw [ev42]; rfl) (by decide) rfl ?_
            refine r_goto X 14 (x_dr DX7_askOf 92 rfl) (by decide) ?_
            refine r_norm X [3, 4, 2, 1, 0] ([(0, .ref (ad 13 0 0)), (2, .int a2), (3, .int v39), (4, .int a4), (5, .int v42)]) rfl ?_
            exact ih _ _ _ _ h kk
          · replace h := h.2 c41
            refine r_iload X (x_dr DX7_askOf 87 rfl) 5 rfl ?_
            refine r_goto X 175 (x_dr DX7_askOf 88 rfl) (by decide) ?_
            refine r_istore X ([(4, .int v33), (3, .int v39), (0, .ref (ad 13 0 0)), (2, .int a2), (5, .int a5), (6, .int v33), (7, .int v36)]) (x_dr DX7_askOf 90 rfl) (by decide) rfl ?_
            obtain ⟨v43, ev43⟩ : ∃ z : Int32, z = a5 + 1 := ⟨_, rfl⟩
            replace h := h v43 ev43
            refine r_iinc (v := v43) X ([(5, .int v43), (4, .int v33), (3, .int v39), (0, .ref (ad 13 0 0)), (2, .int a2), (6, .int v33), (7, .int v36)]) 4 (x_dr DX7_askOf 91 rfl) rfl (by rw [ev43]; rfl) (by decide) rfl ?_
            refine r_goto X 14 (x_dr DX7_askOf 92 rfl) (by decide) ?_
            refine r_norm X [3, 4, 2, 1, 0] ([(0, .ref (ad 13 0 0)), (2, .int a2), (3, .int v39), (4, .int v33), (5, .int v43)]) rfl ?_
            exact ih _ _ _ _ h kk
        refine r_if_eq X 161 (x_dr DX7_askOf 80 rfl) (by decide) (fun c44 => ?_) (fun c44 => ?_)
        · replace h := h.1 c44
          refine r_iload_n X (x_dr DX7_askOf 83 rfl) 3 rfl rfl ?_
          refine r_norm X [1, 2, 4, 5, 6, 0] ([(0, .ref (ad 13 0 0)), (2, .int a2), (4, .int a4), (5, .int a5), (6, .int v33), (7, .int v36)]) rfl ?_
          exact Jj40 _ h
        · replace h := h.2 c44
          refine r_iload X (x_dr DX7_askOf 81 rfl) 5 rfl ?_
          refine r_goto X 162 (x_dr DX7_askOf 82 rfl) (by decide) ?_
          refine r_norm X [1, 2, 4, 5, 6, 0] ([(0, .ref (ad 13 0 0)), (2, .int a2), (4, .int a4), (5, .int a5), (6, .int v33), (7, .int v36)]) rfl ?_
          exact Jj40 _ h
      refine r_icmp_eq X 144 (x_dr DX7_askOf 71 rfl) (by decide) (fun c45 => ?_) (fun c45 => ?_)
      · replace h := h.1 c45
        refine r_iconst (v := 1) X (x_dr DX7_askOf 75 rfl) (by decide) ?_
        refine r_goto X 149 (x_dr DX7_askOf 76 rfl) (by decide) ?_
        refine r_norm X [0, 1, 2, 3, 4, 5] ([(0, .ref (ad 13 0 0)), (2, .int a2), (3, .int a3), (4, .int a4), (5, .int a5), (6, .int v33)]) rfl ?_
        exact Jj37 _ h
      · replace h := h.2 c45
        refine r_iload X (x_dr DX7_askOf 72 rfl) 5 rfl ?_
        refine r_iload X (x_dr DX7_askOf 73 rfl) 3 rfl ?_
        refine r_icmp_ge X 148 (x_dr DX7_askOf 74 rfl) (by decide) (fun c46 => ?_) (fun c46 => ?_)
        · replace h := h.1 c46
          refine r_iconst (v := 0) X (x_dr DX7_askOf 77 rfl) (by decide) ?_
          refine r_norm X [0, 1, 2, 3, 4, 5] ([(0, .ref (ad 13 0 0)), (2, .int a2), (3, .int a3), (4, .int a4), (5, .int a5), (6, .int v33)]) rfl ?_
          exact Jj37 _ h
        · replace h := h.2 c46
          refine r_iconst (v := 1) X (x_dr DX7_askOf 75 rfl) (by decide) ?_
          refine r_goto X 149 (x_dr DX7_askOf 76 rfl) (by decide) ?_
          refine r_norm X [0, 1, 2, 3, 4, 5] ([(0, .ref (ad 13 0 0)), (2, .int a2), (3, .int a3), (4, .int a4), (5, .int a5), (6, .int v33)]) rfl ?_
          exact Jj37 _ h
set_option maxRecDepth 10000 in
theorem k7_askOf {ad : xAd} {G : xG} {l : Launch} {a1 : Int32} {σ : xSt} {Q : Int32 → xSt → Prop}  (h : d7_askOf a1 σ Q) : MC ad G l yX7_askOf cX7_askOf 10 (some .int) 9 202 [.ref (ad 13 0 0), .int a1] σ (qI Q) := by
  unfold d7_askOf at h
  refine x_MC [(0, .ref (ad 13 0 0)), (1, .int a1)] (by decide +kernel) rfl (Nat.le_of_ble_eq_true rfl) ?_
  intro E hG hl X
  replace X : FX ad E cX7_askOf 10 RX7 (some .int) 9 202 := X
  refine r_aload_n X (x_dr DX7_askOf 0 rfl) 0 rfl rfl ?_
  refine r_iload_n X (x_dr DX7_askOf 1 rfl) 1 rfl rfl ?_
  refine cl7_wetBy X (k7_wetBy h) rfl ml_7_310 ⟨Nat.le_of_ble_eq_true rfl, Nat.le_of_ble_eq_true rfl⟩ (Nat.le_of_ble_eq_true rfl) (x_dr DX7_askOf 2 rfl) (fun v2 s1 h => ?_)
  refine r_istore_n X ([(2, .int v2), (0, .ref (ad 13 0 0)), (1, .int a1)]) (x_dr DX7_askOf 3 rfl) rfl (by decide) rfl ?_
  refine r_iconst (v := (-1)) X (x_dr DX7_askOf 4 rfl) (by decide) ?_
  refine r_istore_n X ([(3, .int (-1)), (2, .int v2), (0, .ref (ad 13 0 0)), (1, .int a1)]) (x_dr DX7_askOf 5 rfl) rfl (by decide) rfl ?_
  refine r_iconst (v := 0) X (x_dr DX7_askOf 6 rfl) (by decide) ?_
  refine r_istore X ([(4, .int 0), (3, .int (-1)), (2, .int v2), (0, .ref (ad 13 0 0)), (1, .int a1)]) (x_dr DX7_askOf 7 rfl) (by decide) rfl ?_
  refine r_iconst (v := 0) X (x_dr DX7_askOf 8 rfl) (by decide) ?_
  refine r_istore X ([(5, .int 0), (4, .int 0), (3, .int (-1)), (2, .int v2), (0, .ref (ad 13 0 0)), (1, .int a1)]) (x_dr DX7_askOf 9 rfl) (by decide) rfl ?_
  refine r_norm X [4, 3, 2, 1, 0] ([(0, .ref (ad 13 0 0)), (2, .int v2), (3, .int (-1)), (4, .int 0), (5, .int 0)]) rfl ?_
  refine w7_askOf_L14 X  _ _ _ _ _ h (fun v48 s47 h => ?_)
  refine r_iload_n X (x_dr DX7_askOf 93 rfl) 0 rfl rfl ?_
  exact r_iret X rfl (x_dr DX7_askOf 94 rfl) ⟨_, rfl, h⟩
set_option maxRecDepth 10000 in
theorem k7_ask {ad : xAd} {G : xG} {l : Launch} {a1 : Int32} {σ : xSt} {Q : Int32 → xSt → Prop}  (h : d7_ask a1 σ Q) : MC ad G l yX7_ask cX7_ask 2 (some .int) 10 231 [.ref (ad 13 0 0), .int a1] σ (qI Q) := by
  unfold d7_ask at h
  refine x_MC [(0, .ref (ad 13 0 0)), (1, .int a1)] (by decide +kernel) rfl (Nat.le_of_ble_eq_true rfl) ?_
  intro E hG hl X
  replace X : FX ad E cX7_ask 2 RX7 (some .int) 10 231 := X
  refine r_iload_n X (x_dr DX7_ask 0 rfl) 1 rfl rfl ?_
  refine cl7_isPlace X (k7_isPlace h) ml_7_154 ⟨Nat.le_of_ble_eq_true rfl, Nat.le_of_ble_eq_true rfl⟩ (Nat.le_of_ble_eq_true rfl) (x_dr DX7_ask 1 rfl) (fun v2 s1 zv2 h => ?_)
  refine r_if_eq X 15 (x_dr DX7_ask 2 rfl) (by decide) (fun c3 => ?_) (fun c3 => ?_)
  · replace h := h.1 c3
    refine r_bipush (v := (-2)) X (x_dr DX7_ask 7 rfl) (by decide) ?_
    exact r_iret X rfl (x_dr DX7_ask 8 rfl) ⟨_, rfl, h⟩
  · replace h := h.2 c3
    refine r_aload_n X (x_dr DX7_ask 3 rfl) 0 rfl rfl ?_
    refine r_iload_n X (x_dr DX7_ask 4 rfl) 1 rfl rfl ?_
    refine cl7_askOf X (k7_askOf h) rfl ml_7_313 ⟨Nat.le_of_ble_eq_true rfl, Nat.le_of_ble_eq_true rfl⟩ (Nat.le_of_ble_eq_true rfl) (x_dr DX7_ask 5 rfl) (fun v5 s4 h => ?_)
    refine r_goto X 17 (x_dr DX7_ask 6 rfl) (by decide) ?_
    exact r_iret X rfl (x_dr DX7_ask 8 rfl) ⟨_, rfl, h⟩
set_option maxRecDepth 10000 in
theorem w7_chanceOf_L27 {ad : xAd} {E : xE} (X : FX ad E cX7_chanceOf 10 RX7 (some .long) 7 155)   {a1 : Int32} {a2 : Int32} {a3 : Int32} {a4 : Int64} {a6 : Int32} {K : Int64 → xSt → Prop} {Q : Int64 → xSt → Prop} : ∀ (n : Nat) (a7 : Int64) (a9 : Int32) (σ : xSt), d7_chanceOf_L27 a1 a2 a3 a4 a6 K Q n a7 a9 σ → (∀ (a7 : Int64) (s : xSt), K a7 s → KK ad E (qL Q) 67 ([(0, .ref (ad 13 0 0)), (1, .int a1), (2, .int a2), (3, .int a3), (4, .long a4), (6, .int a6), (7, .long a7)]) [] s) → KK ad E (qL Q) 27 ([(0, .ref (ad 13 0 0)), (1, .int a1), (2, .int a2), (3, .int a3), (4, .long a4), (6, .int a6), (7, .long a7), (9, .int a9)]) [] σ := by
  intro n
  induction n with
  | zero => intro a7 a9 σ h kk; exact h.elim
  | succ n ih =>
    intro a7 a9 σ h kk
    rw [d7_chanceOf_L27] at h
    refine r_iload X (x_dr DX7_chanceOf 16 rfl) 7 rfl ?_
    refine r_aload_n X (x_dr DX7_chanceOf 17 rfl) 0 rfl rfl ?_
    refine gf_7_169 X rfl (x_dr DX7_chanceOf 18 rfl) ?_
    refine r_icmp_ge X 67 (x_dr DX7_chanceOf 19 rfl) (by decide) (fun c3 => ?_) (fun c3 => ?_)
    · replace h := h.1 c3
      refine r_norm X [0, 1, 2, 3, 4, 5, 6] ([(0, .ref (ad 13 0 0)), (1, .int a1), (2, .int a2), (3, .int a3), (4, .long a4), (6, .int a6), (7, .long a7)]) rfl ?_
      exact kk _ _ h
    · replace h := h.2 c3
      refine r_lload X (x_dr DX7_chanceOf 20 rfl) 6 rfl ?_
      refine r_iload X (x_dr DX7_chanceOf 21 rfl) 5 rfl ?_
      refine r_iload X (x_dr DX7_chanceOf 22 rfl) 7 rfl ?_
      refine cl7_isIn X (k7_isIn h) ml_7_215 ⟨Nat.le_of_ble_eq_true rfl, Nat.le_of_ble_eq_true rfl⟩ (Nat.le_of_ble_eq_true rfl) (x_dr DX7_chanceOf 23 rfl) (fun v5 s4 zv5 h => ?_)
      obtain ⟨j8, ej8, h⟩ := x_jn h
      have Jj8 : ∀ (v7 : Int64), j8 v7 → KK ad E (qL Q) 58 ([(0, .ref (ad 13 0 0)), (1, .int a1), (2, .int a2), (3, .int a3), (4, .long a4), (6, .int a6), (9, .int a9)]) [.long v7, .long a7] s4 := by
        intro v7 h
        rw [ej8] at h
        refine r_lmul X (x_dr DX7_chanceOf 32 rfl) ?_
        refine r_nmJ (fun v9 ev9 => ?_)
        replace h := h v9 ev9
        refine r_lstore X ([(7, .long v9), (0, .ref (ad 13 0 0)), (1, .int a1), (2, .int a2), (3, .int a3), (4, .long a4), (6, .int a6), (9, .int a9)]) (x_dr DX7_chanceOf 33 rfl) (by decide) rfl ?_
        obtain ⟨v10, ev10⟩ : ∃ z : Int32, z = a9 + 1 := ⟨_, rfl⟩
        replace h := h v10 ev10
        refine r_iinc (v := v10) X ([(9, .int v10), (7, .long v9), (0, .ref (ad 13 0 0)), (1, .int a1), (2, .int a2), (3, .int a3), (4, .long a4), (6, .int a6)]) 7 (x_dr DX7_chanceOf 34 rfl) rfl (by rw [ev10]; rfl) (by decide) rfl ?_
        refine r_goto X 27 (x_dr DX7_chanceOf 35 rfl) (by decide) ?_
        refine r_norm X [2, 3, 4, 5, 6, 7, 1, 0] ([(0, .ref (ad 13 0 0)), (1, .int a1), (2, .int a2), (3, .int a3), (4, .long a4), (6, .int a6), (7, .long v9), (9, .int v10)]) rfl ?_
        exact ih _ _ _ h kk
      refine r_if_eq X 56 (x_dr DX7_chanceOf 24 rfl) (by decide) (fun c11 => ?_) (fun c11 => ?_)
      · replace h := h.1 c11
        refine r_iload_n X (x_dr DX7_chanceOf 30 rfl) 1 rfl rfl ?_
        refine r_i2l X (x_dr DX7_chanceOf 31 rfl) ?_
        refine r_norm X [0, 1, 2, 3, 4, 5, 7] ([(0, .ref (ad 13 0 0)), (1, .int a1), (2, .int a2), (3, .int a3), (4, .long a4), (6, .int a6), (9, .int a9)]) rfl ?_
        exact Jj8 _ h
      · replace h := h.2 c11
        refine r_bipush (v := 16) X (x_dr DX7_chanceOf 25 rfl) (by decide) ?_
        refine r_iload_n X (x_dr DX7_chanceOf 26 rfl) 1 rfl rfl ?_
        refine r_isub X (x_dr DX7_chanceOf 27 rfl) ?_
        refine r_i2l X (x_dr DX7_chanceOf 28 rfl) ?_
        refine r_goto X 58 (x_dr DX7_chanceOf 29 rfl) (by decide) ?_
        refine r_norm X [0, 1, 2, 3, 4, 5, 7] ([(0, .ref (ad 13 0 0)), (1, .int a1), (2, .int a2), (3, .int a3), (4, .long a4), (6, .int a6), (9, .int a9)]) rfl ?_
        exact Jj8 _ h
set_option maxRecDepth 10000 in
theorem w7_chanceOf_L10 {ad : xAd} {E : xE} (X : FX ad E cX7_chanceOf 10 RX7 (some .long) 7 155)   {a1 : Int32} {a2 : Int32} {a3 : Int32} {K : Int64 → xSt → Prop} {Q : Int64 → xSt → Prop} : ∀ (n : Nat) (a4 : Int64) (a6 : Int32) (σ : xSt), d7_chanceOf_L10 a1 a2 a3 K Q n a4 a6 σ → (∀ (a4 : Int64) (s : xSt), K a4 s → KK ad E (qL Q) 109 ([(0, .ref (ad 13 0 0)), (3, .int a3), (4, .long a4)]) [] s) → KK ad E (qL Q) 10 ([(0, .ref (ad 13 0 0)), (1, .int a1), (2, .int a2), (3, .int a3), (4, .long a4), (6, .int a6)]) [] σ := by
  intro n
  induction n with
  | zero => intro a4 a6 σ h kk; exact h.elim
  | succ n ih =>
    intro a4 a6 σ h kk
    rw [d7_chanceOf_L10] at h
    refine r_iload X (x_dr DX7_chanceOf 6 rfl) 5 rfl ?_
    refine r_iconst (v := 1) X (x_dr DX7_chanceOf 7 rfl) (by decide) ?_
    refine r_aload_n X (x_dr DX7_chanceOf 8 rfl) 0 rfl rfl ?_
    refine gf_7_169 X rfl (x_dr DX7_chanceOf 9 rfl) ?_
    refine r_ishl X (x_dr DX7_chanceOf 10 rfl) ?_
    refine r_icmp_ge X 109 (x_dr DX7_chanceOf 11 rfl) (by decide) (fun c2 => ?_) (fun c2 => ?_)
    · replace h := h.1 c2
      refine r_norm X [0, 3, 4] ([(0, .ref (ad 13 0 0)), (3, .int a3), (4, .long a4)]) rfl ?_
      exact kk _ _ h
    · replace h := h.2 c2
      refine r_lconst (v := 1) X (x_dr DX7_chanceOf 12 rfl) (by decide) ?_
      refine r_lstore X ([(7, .long 1), (0, .ref (ad 13 0 0)), (1, .int a1), (2, .int a2), (3, .int a3), (4, .long a4), (6, .int a6)]) (x_dr DX7_chanceOf 13 rfl) (by decide) rfl ?_
      refine r_iconst (v := 0) X (x_dr DX7_chanceOf 14 rfl) (by decide) ?_
      refine r_istore X ([(9, .int 0), (7, .long 1), (0, .ref (ad 13 0 0)), (1, .int a1), (2, .int a2), (3, .int a3), (4, .long a4), (6, .int a6)]) (x_dr DX7_chanceOf 15 rfl) (by decide) rfl ?_
      refine r_norm X [2, 3, 4, 5, 6, 7, 1, 0] ([(0, .ref (ad 13 0 0)), (1, .int a1), (2, .int a2), (3, .int a3), (4, .long a4), (6, .int a6), (7, .long 1), (9, .int 0)]) rfl ?_
      refine w7_chanceOf_L27 X  _ _ _ _ h (fun v13 s12 h => ?_)
      refine r_lload X (x_dr DX7_chanceOf 36 rfl) 6 rfl ?_
      refine r_lconst (v := 0) X (x_dr DX7_chanceOf 37 rfl) (by decide) ?_
      refine r_lcmp X (x_dr DX7_chanceOf 38 rfl) ?_
      refine r_if_le X 103 (x_dr DX7_chanceOf 39 rfl) (by decide) (fun c14 => ?_) (fun c14 => ?_)
      · replace h := h.1 c14
        obtain ⟨v15, ev15⟩ : ∃ z : Int32, z = a6 + 1 := ⟨_, rfl⟩
        replace h := h v15 ev15
        refine r_iinc (v := v15) X ([(6, .int v15), (0, .ref (ad 13 0 0)), (1, .int a1), (2, .int a2), (3, .int a3), (4, .long a4), (7, .long v13)]) 5 (x_dr DX7_chanceOf 55 rfl) rfl (by rw [ev15]; rfl) (by decide) rfl ?_
        refine r_goto X 10 (x_dr DX7_chanceOf 56 rfl) (by decide) ?_
        refine r_norm X [1, 2, 3, 4, 5, 0] ([(0, .ref (ad 13 0 0)), (1, .int a1), (2, .int a2), (3, .int a3), (4, .long a4), (6, .int v15)]) rfl ?_
        exact ih _ _ _ h kk
      · replace h := h.2 c14
        refine r_aload_n X (x_dr DX7_chanceOf 40 rfl) 0 rfl rfl ?_
        refine r_iload X (x_dr DX7_chanceOf 41 rfl) 5 rfl ?_
        refine pf_7_185 X rfl (x_dr DX7_chanceOf 42 rfl) ?_
        refine r_nmS (fun s16 es16 => ?_)
        replace h := h s16 es16
        refine r_aload_n X (x_dr DX7_chanceOf 43 rfl) 0 rfl rfl ?_
        refine cl7_runs X (k7_runs h) rfl ml_7_236 ⟨Nat.le_of_ble_eq_true rfl, Nat.le_of_ble_eq_true rfl⟩ (Nat.le_of_ble_eq_true rfl) (x_dr DX7_chanceOf 44 rfl) (fun s17 h => ?_)
        refine r_lload X (x_dr DX7_chanceOf 45 rfl) 4 rfl ?_
        refine r_aload_n X (x_dr DX7_chanceOf 46 rfl) 0 rfl rfl ?_
        refine r_iload_n X (x_dr DX7_chanceOf 47 rfl) 2 rfl rfl ?_
        refine cl7_isCarried X (k7_isCarried h) rfl ml_7_248 ⟨Nat.le_of_ble_eq_true rfl, Nat.le_of_ble_eq_true rfl⟩ (Nat.le_of_ble_eq_true rfl) (x_dr DX7_chanceOf 48 rfl) (fun v19 s18 zv19 h => ?_)
        obtain ⟨j22, ej22, h⟩ := x_jn h
        have Jj22 : ∀ (v21 : Int64), j22 v21 → KK ad E (qL Q) 100 ([(0, .ref (ad 13 0 0)), (1, .int a1), (2, .int a2), (3, .int a3), (6, .int a6)]) [.long v21, .long a4] s18 := by
          intro v21 h
          rw [ej22] at h
          refine r_ladd X (x_dr DX7_chanceOf 53 rfl) ?_
          refine r_nmJ (fun v23 ev23 => ?_)
          replace h := h v23 ev23
          refine r_lstore X ([(4, .long v23), (0, .ref (ad 13 0 0)), (1, .int a1), (2, .int a2), (3, .int a3), (6, .int a6)]) (x_dr DX7_chanceOf 54 rfl) (by decide) rfl ?_
          obtain ⟨v24, ev24⟩ : ∃ z : Int32, z = a6 + 1 := ⟨_, rfl⟩
          replace h := h v24 ev24
          refine r_iinc (v := v24) X ([(6, .int v24), (4, .long v23), (0, .ref (ad 13 0 0)), (1, .int a1), (2, .int a2), (3, .int a3)]) 5 (x_dr DX7_chanceOf 55 rfl) rfl (by rw [ev24]; rfl) (by decide) rfl ?_
          refine r_goto X 10 (x_dr DX7_chanceOf 56 rfl) (by decide) ?_
          refine r_norm X [2, 3, 4, 5, 1, 0] ([(0, .ref (ad 13 0 0)), (1, .int a1), (2, .int a2), (3, .int a3), (4, .long v23), (6, .int v24)]) rfl ?_
          exact ih _ _ _ h kk
        refine r_if_eq X 99 (x_dr DX7_chanceOf 49 rfl) (by decide) (fun c25 => ?_) (fun c25 => ?_)
        · replace h := h.1 c25
          refine r_lconst (v := 0) X (x_dr DX7_chanceOf 52 rfl) (by decide) ?_
          refine r_norm X [0, 1, 2, 3, 5] ([(0, .ref (ad 13 0 0)), (1, .int a1), (2, .int a2), (3, .int a3), (6, .int a6)]) rfl ?_
          exact Jj22 _ h
        · replace h := h.2 c25
          refine r_lload X (x_dr DX7_chanceOf 50 rfl) 6 rfl ?_
          refine r_goto X 100 (x_dr DX7_chanceOf 51 rfl) (by decide) ?_
          refine r_norm X [0, 1, 2, 3, 5] ([(0, .ref (ad 13 0 0)), (1, .int a1), (2, .int a2), (3, .int a3), (6, .int a6)]) rfl ?_
          exact Jj22 _ h
set_option maxRecDepth 10000 in
theorem k7_chanceOf {ad : xAd} {G : xG} {l : Launch} {a1 : Int32} {a2 : Int32} {a3 : Int32} {σ : xSt} {Q : Int64 → xSt → Prop}  (h : d7_chanceOf a1 a2 a3 σ Q) : MC ad G l yX7_chanceOf cX7_chanceOf 10 (some .long) 7 155 [.ref (ad 13 0 0), .int a1, .int a2, .int a3] σ (qL Q) := by
  unfold d7_chanceOf at h
  refine x_MC [(0, .ref (ad 13 0 0)), (1, .int a1), (2, .int a2), (3, .int a3)] (by decide +kernel) rfl (Nat.le_of_ble_eq_true rfl) ?_
  intro E hG hl X
  replace X : FX ad E cX7_chanceOf 10 RX7 (some .long) 7 155 := X
  refine r_aload_n X (x_dr DX7_chanceOf 0 rfl) 0 rfl rfl ?_
  refine cl7_asTold X (k7_asTold h) rfl ml_7_233 ⟨Nat.le_of_ble_eq_true rfl, Nat.le_of_ble_eq_true rfl⟩ (Nat.le_of_ble_eq_true rfl) (x_dr DX7_chanceOf 1 rfl) (fun s1 h => ?_)
  refine r_lconst (v := 0) X (x_dr DX7_chanceOf 2 rfl) (by decide) ?_
  refine r_lstore X ([(4, .long 0), (0, .ref (ad 13 0 0)), (1, .int a1), (2, .int a2), (3, .int a3)]) (x_dr DX7_chanceOf 3 rfl) (by decide) rfl ?_
  refine r_iconst (v := 0) X (x_dr DX7_chanceOf 4 rfl) (by decide) ?_
  refine r_istore X ([(6, .int 0), (4, .long 0), (0, .ref (ad 13 0 0)), (1, .int a1), (2, .int a2), (3, .int a3)]) (x_dr DX7_chanceOf 5 rfl) (by decide) rfl ?_
  refine r_norm X [2, 3, 4, 5, 1, 0] ([(0, .ref (ad 13 0 0)), (1, .int a1), (2, .int a2), (3, .int a3), (4, .long 0), (6, .int 0)]) rfl ?_
  refine w7_chanceOf_L10 X  _ _ _ _ h (fun v27 s26 h => ?_)
  refine r_lload X (x_dr DX7_chanceOf 57 rfl) 2 rfl ?_
  refine r_lconst (v := 1) X (x_dr DX7_chanceOf 58 rfl) (by decide) ?_
  refine r_iconst (v := 4) X (x_dr DX7_chanceOf 59 rfl) (by decide) ?_
  refine r_aload_n X (x_dr DX7_chanceOf 60 rfl) 0 rfl rfl ?_
  refine gf_7_169 X rfl (x_dr DX7_chanceOf 61 rfl) ?_
  refine r_imul X (x_dr DX7_chanceOf 62 rfl) ?_
  refine r_lshl X (x_dr DX7_chanceOf 63 rfl) ?_
  refine r_iload_n X (x_dr DX7_chanceOf 64 rfl) 1 rfl rfl ?_
  refine cl7_lowest X (k7_lowest h) ml_7_316 ⟨Nat.le_of_ble_eq_true rfl, Nat.le_of_ble_eq_true rfl⟩ (Nat.le_of_ble_eq_true rfl) (x_dr DX7_chanceOf 65 rfl) (fun v29 s28 h => ?_)
  exact r_lret X rfl (x_dr DX7_chanceOf 66 rfl) ⟨_, rfl, h⟩
set_option maxRecDepth 10000 in
theorem k7_chance {ad : xAd} {G : xG} {l : Launch} {a1 : Int32} {a2 : Int32} {a3 : Int32} {σ : xSt} {Q : Int64 → xSt → Prop}  (h : d7_chance a1 a2 a3 σ Q) : MC ad G l yX7_chance cX7_chance 4 (some .long) 8 184 [.ref (ad 13 0 0), .int a1, .int a2, .int a3] σ (qL Q) := by
  unfold d7_chance at h
  refine x_MC [(0, .ref (ad 13 0 0)), (1, .int a1), (2, .int a2), (3, .int a3)] (by decide +kernel) rfl (Nat.le_of_ble_eq_true rfl) ?_
  intro E hG hl X
  replace X : FX ad E cX7_chance 4 RX7 (some .long) 8 184 := X
  refine r_iload_n X (x_dr DX7_chance 0 rfl) 1 rfl rfl ?_
  refine r_iconst (v := 0) X (x_dr DX7_chance 1 rfl) (by decide) ?_
  refine r_bipush (v := 16) X (x_dr DX7_chance 2 rfl) (by decide) ?_
  refine cl7_in X (k7_in h) ml_7_115 ⟨Nat.le_of_ble_eq_true rfl, Nat.le_of_ble_eq_true rfl⟩ (Nat.le_of_ble_eq_true rfl) (x_dr DX7_chance 3 rfl) (fun v2 s1 zv2 h => ?_)
  refine r_if_eq X 36 (x_dr DX7_chance 4 rfl) (by decide) (fun c3 => ?_) (fun c3 => ?_)
  · replace h := h.1 c3
    refine r_bipush (v := (-2)) X (x_dr DX7_chance 19 rfl) (by decide) ?_
    refine cl7_no X (k7_no h) ml_7_324 ⟨Nat.le_of_ble_eq_true rfl, Nat.le_of_ble_eq_true rfl⟩ (Nat.le_of_ble_eq_true rfl) (x_dr DX7_chance 20 rfl) (fun v5 s4 h => ?_)
    exact r_lret X rfl (x_dr DX7_chance 21 rfl) ⟨_, rfl, h⟩
  · replace h := h.2 c3
    refine r_iload_n X (x_dr DX7_chance 5 rfl) 2 rfl rfl ?_
    refine cl7_isHour X (k7_isHour h) ml_7_166 ⟨Nat.le_of_ble_eq_true rfl, Nat.le_of_ble_eq_true rfl⟩ (Nat.le_of_ble_eq_true rfl) (x_dr DX7_chance 6 rfl) (fun v7 s6 zv7 h => ?_)
    refine r_if_eq X 36 (x_dr DX7_chance 7 rfl) (by decide) (fun c8 => ?_) (fun c8 => ?_)
    · replace h := h.1 c8
      refine r_bipush (v := (-2)) X (x_dr DX7_chance 19 rfl) (by decide) ?_
      refine cl7_no X (k7_no h) ml_7_324 ⟨Nat.le_of_ble_eq_true rfl, Nat.le_of_ble_eq_true rfl⟩ (Nat.le_of_ble_eq_true rfl) (x_dr DX7_chance 20 rfl) (fun v10 s9 h => ?_)
      exact r_lret X rfl (x_dr DX7_chance 21 rfl) ⟨_, rfl, h⟩
    · replace h := h.2 c8
      refine r_iload_n X (x_dr DX7_chance 8 rfl) 3 rfl rfl ?_
      refine r_iconst (v := 0) X (x_dr DX7_chance 9 rfl) (by decide) ?_
      refine r_iconst (v := 1) X (x_dr DX7_chance 10 rfl) (by decide) ?_
      refine cl7_in X (k7_in h) ml_7_115 ⟨Nat.le_of_ble_eq_true rfl, Nat.le_of_ble_eq_true rfl⟩ (Nat.le_of_ble_eq_true rfl) (x_dr DX7_chance 11 rfl) (fun v12 s11 zv12 h => ?_)
      refine r_if_eq X 36 (x_dr DX7_chance 12 rfl) (by decide) (fun c13 => ?_) (fun c13 => ?_)
      · replace h := h.1 c13
        refine r_bipush (v := (-2)) X (x_dr DX7_chance 19 rfl) (by decide) ?_
        refine cl7_no X (k7_no h) ml_7_324 ⟨Nat.le_of_ble_eq_true rfl, Nat.le_of_ble_eq_true rfl⟩ (Nat.le_of_ble_eq_true rfl) (x_dr DX7_chance 20 rfl) (fun v15 s14 h => ?_)
        exact r_lret X rfl (x_dr DX7_chance 21 rfl) ⟨_, rfl, h⟩
      · replace h := h.2 c13
        refine r_aload_n X (x_dr DX7_chance 13 rfl) 0 rfl rfl ?_
        refine r_iload_n X (x_dr DX7_chance 14 rfl) 1 rfl rfl ?_
        refine r_iload_n X (x_dr DX7_chance 15 rfl) 2 rfl rfl ?_
        refine r_iload_n X (x_dr DX7_chance 16 rfl) 3 rfl rfl ?_
        refine cl7_chanceOf X (k7_chanceOf h) rfl ml_7_320 ⟨Nat.le_of_ble_eq_true rfl, Nat.le_of_ble_eq_true rfl⟩ (Nat.le_of_ble_eq_true rfl) (x_dr DX7_chance 17 rfl) (fun v17 s16 h => ?_)
        refine r_goto X 41 (x_dr DX7_chance 18 rfl) (by decide) ?_
        exact r_lret X rfl (x_dr DX7_chance 21 rfl) ⟨_, rfl, h⟩
set_option maxRecDepth 10000 in
theorem w7_agesOf_L15 {ad : xAd} {E : xE} (X : FX ad E cX7_agesOf 6 RX7 (some .int) 7 155)   {a2 : Int32} {a3 : Int32} {K : xSt → Prop} {Q : Int32 → xSt → Prop} : ∀ (n : Nat) (a4 : Int32) (a5 : Int32) (σ : xSt), d7_agesOf_L15 a2 a3 K Q n a4 a5 σ → (∀ (s : xSt), K  s → KK ad E (qI Q) 107 ([(0, .ref (ad 13 0 0)), (3, .int a3)]) [] s) → KK ad E (qI Q) 15 ([(0, .ref (ad 13 0 0)), (2, .int a2), (3, .int a3), (4, .int a4), (5, .int a5)]) [] σ := by
  intro n
  induction n with
  | zero => intro a4 a5 σ h kk; exact h.elim
  | succ n ih =>
    intro a4 a5 σ h kk
    rw [d7_agesOf_L15] at h
    refine r_iload X (x_dr DX7_agesOf 9 rfl) 4 rfl ?_
    refine r_iload_n X (x_dr DX7_agesOf 10 rfl) 1 rfl rfl ?_
    refine r_icmp_ge X 107 (x_dr DX7_agesOf 11 rfl) (by decide) (fun c3 => ?_) (fun c3 => ?_)
    · replace h := h.1 c3
      refine r_norm X [0, 2] ([(0, .ref (ad 13 0 0)), (3, .int a3)]) rfl ?_
      exact kk  _ h
    · replace h := h.2 c3
      refine r_ldcw X mk_7_328 (x_dr DX7_agesOf 12 rfl) ?_
      refine r_iload X (x_dr DX7_agesOf 13 rfl) 3 rfl ?_
      refine r_imul X (x_dr DX7_agesOf 14 rfl) ?_
      refine r_sipush (v := 12345) X (x_dr DX7_agesOf 15 rfl) (by decide) ?_
      refine r_iadd X (x_dr DX7_agesOf 16 rfl) ?_
      refine r_nmI (fun v4 ev4 => ?_)
      replace h := h v4 ev4
      refine r_istore X ([(4, .int v4), (0, .ref (ad 13 0 0)), (2, .int a2), (3, .int a3), (5, .int a5)]) (x_dr DX7_agesOf 17 rfl) (by decide) rfl ?_
      refine r_aload_n X (x_dr DX7_agesOf 18 rfl) 1 rfl rfl ?_
      refine gf_7_37 X rfl (x_dr DX7_agesOf 19 rfl) ?_
      refine r_iload X (x_dr DX7_agesOf 20 rfl) 4 rfl ?_
      refine r_iload X (x_dr DX7_agesOf 21 rfl) 0 rfl ?_
      refine r_bipush (v := 16) X (x_dr DX7_agesOf 22 rfl) (by decide) ?_
      refine r_iushr X (x_dr DX7_agesOf 23 rfl) ?_
      refine r_iconst (v := 4) X (x_dr DX7_agesOf 24 rfl) (by decide) ?_
      obtain ⟨b5, h⟩ := h
      refine r_irem X (x_dr DX7_agesOf 25 rfl) b5 ?_
      obtain ⟨b6, h⟩ := h
      refine r_iast X rfl rfl b6 (x_dr DX7_agesOf 26 rfl) ?_
      refine r_nmS (fun s7 es7 => ?_)
      replace h := h s7 es7
      refine r_ldcw X mk_7_328 (x_dr DX7_agesOf 27 rfl) ?_
      refine r_iload X (x_dr DX7_agesOf 28 rfl) 0 rfl ?_
      refine r_imul X (x_dr DX7_agesOf 29 rfl) ?_
      refine r_sipush (v := 12345) X (x_dr DX7_agesOf 30 rfl) (by decide) ?_
      refine r_iadd X (x_dr DX7_agesOf 31 rfl) ?_
      refine r_nmI (fun v8 ev8 => ?_)
      replace h := h v8 ev8
      refine r_istore X ([(4, .int v8), (0, .ref (ad 13 0 0)), (2, .int a2), (3, .int a3), (5, .int a5)]) (x_dr DX7_agesOf 32 rfl) (by decide) rfl ?_
      refine r_aload_n X (x_dr DX7_agesOf 33 rfl) 1 rfl rfl ?_
      refine gf_7_40 X rfl (x_dr DX7_agesOf 34 rfl) ?_
      refine r_iload X (x_dr DX7_agesOf 35 rfl) 4 rfl ?_
      refine r_iload X (x_dr DX7_agesOf 36 rfl) 0 rfl ?_
      refine r_bipush (v := 16) X (x_dr DX7_agesOf 37 rfl) (by decide) ?_
      refine r_iushr X (x_dr DX7_agesOf 38 rfl) ?_
      refine r_bipush (v := 20) X (x_dr DX7_agesOf 39 rfl) (by decide) ?_
      obtain ⟨b9, h⟩ := h
      refine r_irem X (x_dr DX7_agesOf 40 rfl) b9 ?_
      obtain ⟨b10, h⟩ := h
      refine r_iast X rfl rfl b10 (x_dr DX7_agesOf 41 rfl) ?_
      refine r_nmS (fun s11 es11 => ?_)
      replace h := h s11 es11
      refine r_ldcw X mk_7_328 (x_dr DX7_agesOf 42 rfl) ?_
      refine r_iload X (x_dr DX7_agesOf 43 rfl) 0 rfl ?_
      refine r_imul X (x_dr DX7_agesOf 44 rfl) ?_
      refine r_sipush (v := 12345) X (x_dr DX7_agesOf 45 rfl) (by decide) ?_
      refine r_iadd X (x_dr DX7_agesOf 46 rfl) ?_
      refine r_nmI (fun v12 ev12 => ?_)
      replace h := h v12 ev12
      refine r_istore X ([(4, .int v12), (0, .ref (ad 13 0 0)), (2, .int a2), (3, .int a3), (5, .int a5)]) (x_dr DX7_agesOf 47 rfl) (by decide) rfl ?_
      refine r_aload_n X (x_dr DX7_agesOf 48 rfl) 1 rfl rfl ?_
      refine gf_7_43 X rfl (x_dr DX7_agesOf 49 rfl) ?_
      refine r_iload X (x_dr DX7_agesOf 50 rfl) 4 rfl ?_
      refine r_iload X (x_dr DX7_agesOf 51 rfl) 0 rfl ?_
      refine r_bipush (v := 16) X (x_dr DX7_agesOf 52 rfl) (by decide) ?_
      refine r_iushr X (x_dr DX7_agesOf 53 rfl) ?_
      refine r_bipush (v := 12) X (x_dr DX7_agesOf 54 rfl) (by decide) ?_
      obtain ⟨b13, h⟩ := h
      refine r_irem X (x_dr DX7_agesOf 55 rfl) b13 ?_
      obtain ⟨b14, h⟩ := h
      refine r_iast X rfl rfl b14 (x_dr DX7_agesOf 56 rfl) ?_
      refine r_nmS (fun s15 es15 => ?_)
      replace h := h s15 es15
      obtain ⟨v16, ev16⟩ : ∃ z : Int32, z = a5 + 1 := ⟨_, rfl⟩
      replace h := h v16 ev16
      refine r_iinc (v := v16) X ([(5, .int v16), (4, .int v12), (0, .ref (ad 13 0 0)), (2, .int a2), (3, .int a3)]) 4 (x_dr DX7_agesOf 57 rfl) rfl (by rw [ev16]; rfl) (by decide) rfl ?_
      refine r_goto X 15 (x_dr DX7_agesOf 58 rfl) (by decide) ?_
      refine r_norm X [2, 3, 4, 1, 0] ([(0, .ref (ad 13 0 0)), (2, .int a2), (3, .int a3), (4, .int v12), (5, .int v16)]) rfl ?_
      exact ih _ _ _ h kk
set_option maxRecDepth 10000 in
theorem k7_agesOf {ad : xAd} {G : xG} {l : Launch} {a1 : Int32} {a2 : Int32} {a3 : Int32} {σ : xSt} {Q : Int32 → xSt → Prop}  (h : d7_agesOf a1 a2 a3 σ Q) : MC ad G l yX7_agesOf cX7_agesOf 6 (some .int) 7 155 [.ref (ad 13 0 0), .int a1, .int a2, .int a3] σ (qI Q) := by
  unfold d7_agesOf at h
  refine x_MC [(0, .ref (ad 13 0 0)), (1, .int a1), (2, .int a2), (3, .int a3)] (by decide +kernel) rfl (Nat.le_of_ble_eq_true rfl) ?_
  intro E hG hl X
  replace X : FX ad E cX7_agesOf 6 RX7 (some .int) 7 155 := X
  refine r_aload_n X (x_dr DX7_agesOf 0 rfl) 0 rfl rfl ?_
  refine cl7_asTold X (k7_asTold h) rfl ml_7_233 ⟨Nat.le_of_ble_eq_true rfl, Nat.le_of_ble_eq_true rfl⟩ (Nat.le_of_ble_eq_true rfl) (x_dr DX7_agesOf 1 rfl) (fun s1 h => ?_)
  refine r_iload_n X (x_dr DX7_agesOf 2 rfl) 1 rfl rfl ?_
  refine r_istore X ([(4, .int a1), (0, .ref (ad 13 0 0)), (1, .int a1), (2, .int a2), (3, .int a3)]) (x_dr DX7_agesOf 3 rfl) (by decide) rfl ?_
  refine r_aload_n X (x_dr DX7_agesOf 4 rfl) 1 rfl rfl ?_
  refine r_iload_n X (x_dr DX7_agesOf 5 rfl) 3 rfl rfl ?_
  refine pf_7_182 X rfl (x_dr DX7_agesOf 6 rfl) ?_
  refine r_nmS (fun s2 es2 => ?_)
  replace h := h s2 es2
  refine r_iconst (v := 0) X (x_dr DX7_agesOf 7 rfl) (by decide) ?_
  refine r_istore X ([(5, .int 0), (4, .int a1), (0, .ref (ad 13 0 0)), (1, .int a1), (2, .int a2), (3, .int a3)]) (x_dr DX7_agesOf 8 rfl) (by decide) rfl ?_
  refine r_norm X [2, 4, 5, 1, 0] ([(0, .ref (ad 13 0 0)), (2, .int a2), (3, .int a3), (4, .int a1), (5, .int 0)]) rfl ?_
  refine w7_agesOf_L15 X  _ _ _ _ h (fun s17 h => ?_)
  refine r_aload_n X (x_dr DX7_agesOf 59 rfl) 0 rfl rfl ?_
  refine cl7_runs X (k7_runs h) rfl ml_7_236 ⟨Nat.le_of_ble_eq_true rfl, Nat.le_of_ble_eq_true rfl⟩ (Nat.le_of_ble_eq_true rfl) (x_dr DX7_agesOf 60 rfl) (fun s18 h => ?_)
  refine r_iload_n X (x_dr DX7_agesOf 61 rfl) 1 rfl rfl ?_
  refine r_if_ne X 122 (x_dr DX7_agesOf 62 rfl) (by decide) (fun c19 => ?_) (fun c19 => ?_)
  · replace h := h.1 c19
    refine r_aload_n X (x_dr DX7_agesOf 66 rfl) 0 rfl rfl ?_
    refine cl7_governmentsNow X (k7_governmentsNow h) rfl ml_7_254 ⟨Nat.le_of_ble_eq_true rfl, Nat.le_of_ble_eq_true rfl⟩ (Nat.le_of_ble_eq_true rfl) (x_dr DX7_agesOf 67 rfl) (fun v21 s20 h => ?_)
    exact r_iret X rfl (x_dr DX7_agesOf 68 rfl) ⟨_, rfl, h⟩
  · replace h := h.2 c19
    refine r_aload_n X (x_dr DX7_agesOf 63 rfl) 0 rfl rfl ?_
    refine cl7_carriedNow X (k7_carriedNow h) rfl ml_7_260 ⟨Nat.le_of_ble_eq_true rfl, Nat.le_of_ble_eq_true rfl⟩ (Nat.le_of_ble_eq_true rfl) (x_dr DX7_agesOf 64 rfl) (fun v23 s22 h => ?_)
    refine r_goto X 126 (x_dr DX7_agesOf 65 rfl) (by decide) ?_
    exact r_iret X rfl (x_dr DX7_agesOf 68 rfl) ⟨_, rfl, h⟩
set_option maxRecDepth 10000 in
theorem k7_ages {ad : xAd} {G : xG} {l : Launch} {a1 : Int32} {a2 : Int32} {a3 : Int32} {σ : xSt} {Q : Int32 → xSt → Prop}  (h : d7_ages a1 a2 a3 σ Q) : MC ad G l yX7_ages cX7_ages 4 (some .int) 8 180 [.ref (ad 13 0 0), .int a1, .int a2, .int a3] σ (qI Q) := by
  unfold d7_ages at h
  refine x_MC [(0, .ref (ad 13 0 0)), (1, .int a1), (2, .int a2), (3, .int a3)] (by decide +kernel) rfl (Nat.le_of_ble_eq_true rfl) ?_
  intro E hG hl X
  replace X : FX ad E cX7_ages 4 RX7 (some .int) 8 180 := X
  refine r_iload_n X (x_dr DX7_ages 0 rfl) 2 rfl rfl ?_
  refine r_iconst (v := 0) X (x_dr DX7_ages 1 rfl) (by decide) ?_
  refine r_bipush (v := 8) X (x_dr DX7_ages 2 rfl) (by decide) ?_
  refine cl7_in X (k7_in h) ml_7_115 ⟨Nat.le_of_ble_eq_true rfl, Nat.le_of_ble_eq_true rfl⟩ (Nat.le_of_ble_eq_true rfl) (x_dr DX7_ages 3 rfl) (fun v2 s1 zv2 h => ?_)
  refine r_if_eq X 29 (x_dr DX7_ages 4 rfl) (by decide) (fun c3 => ?_) (fun c3 => ?_)
  · replace h := h.1 c3
    refine r_bipush (v := (-2)) X (x_dr DX7_ages 16 rfl) (by decide) ?_
    exact r_iret X rfl (x_dr DX7_ages 17 rfl) ⟨_, rfl, h⟩
  · replace h := h.2 c3
    refine r_iload_n X (x_dr DX7_ages 5 rfl) 3 rfl rfl ?_
    refine r_iconst (v := 0) X (x_dr DX7_ages 6 rfl) (by decide) ?_
    refine r_iconst (v := 1) X (x_dr DX7_ages 7 rfl) (by decide) ?_
    refine cl7_in X (k7_in h) ml_7_115 ⟨Nat.le_of_ble_eq_true rfl, Nat.le_of_ble_eq_true rfl⟩ (Nat.le_of_ble_eq_true rfl) (x_dr DX7_ages 8 rfl) (fun v5 s4 zv5 h => ?_)
    refine r_if_eq X 29 (x_dr DX7_ages 9 rfl) (by decide) (fun c6 => ?_) (fun c6 => ?_)
    · replace h := h.1 c6
      refine r_bipush (v := (-2)) X (x_dr DX7_ages 16 rfl) (by decide) ?_
      exact r_iret X rfl (x_dr DX7_ages 17 rfl) ⟨_, rfl, h⟩
    · replace h := h.2 c6
      refine r_aload_n X (x_dr DX7_ages 10 rfl) 0 rfl rfl ?_
      refine r_iload_n X (x_dr DX7_ages 11 rfl) 1 rfl rfl ?_
      refine r_iload_n X (x_dr DX7_ages 12 rfl) 2 rfl rfl ?_
      refine r_iload_n X (x_dr DX7_ages 13 rfl) 3 rfl rfl ?_
      refine cl7_agesOf X (k7_agesOf h) rfl ml_7_329 ⟨Nat.le_of_ble_eq_true rfl, Nat.le_of_ble_eq_true rfl⟩ (Nat.le_of_ble_eq_true rfl) (x_dr DX7_ages 14 rfl) (fun v8 s7 h => ?_)
      refine r_goto X 31 (x_dr DX7_ages 15 rfl) (by decide) ?_
      exact r_iret X rfl (x_dr DX7_ages 17 rfl) ⟨_, rfl, h⟩
set_option maxRecDepth 10000 in
theorem w7_sheet_L59 {ad : xAd} {E : xE} (X : FX ad E cX7_sheet 5 RX7 (some .int) 2 42)   {a1 : Int32} {a3 : Int32} {K : xSt → Prop} {Q : Int32 → xSt → Prop} : ∀ (n : Nat) (a4 : Int32) (σ : xSt), d7_sheet_L59 a1 a3 K Q n a4 σ → (∀ (s : xSt), K  s → KK ad E (qI Q) 85 ([(3, .int a3)]) [] s) → KK ad E (qI Q) 59 ([(0, .ref (ad 13 0 0)), (1, .int a1), (3, .int a3), (4, .int a4)]) [] σ := by
  intro n
  induction n with
  | zero => intro a4 σ h kk; exact h.elim
  | succ n ih =>
    intro a4 σ h kk
    rw [d7_sheet_L59] at h
    refine r_iload X (x_dr DX7_sheet 36 rfl) 3 rfl ?_
    refine r_bipush (v := 60) X (x_dr DX7_sheet 37 rfl) (by decide) ?_
    refine r_icmp_ge X 85 (x_dr DX7_sheet 38 rfl) (by decide) (fun c15 => ?_) (fun c15 => ?_)
    · replace h := h.1 c15
      refine r_norm X [2] ([(3, .int a3)]) rfl ?_
      exact kk  _ h
    · replace h := h.2 c15
      refine r_aload_n X (x_dr DX7_sheet 39 rfl) 0 rfl rfl ?_
      refine gf_7_107 X rfl (x_dr DX7_sheet 40 rfl) ?_
      refine r_bipush (v := 60) X (x_dr DX7_sheet 41 rfl) (by decide) ?_
      refine r_iload_n X (x_dr DX7_sheet 42 rfl) 1 rfl rfl ?_
      refine r_imul X (x_dr DX7_sheet 43 rfl) ?_
      refine r_iload X (x_dr DX7_sheet 44 rfl) 3 rfl ?_
      refine r_iadd X (x_dr DX7_sheet 45 rfl) ?_
      refine r_iconst (v := 0) X (x_dr DX7_sheet 46 rfl) (by decide) ?_
      obtain ⟨b16, h⟩ := h
      refine r_iast X rfl rfl b16 (x_dr DX7_sheet 47 rfl) ?_
      refine r_nmS (fun s17 es17 => ?_)
      replace h := h s17 es17
      obtain ⟨v18, ev18⟩ : ∃ z : Int32, z = a4 + 1 := ⟨_, rfl⟩
      replace h := h v18 ev18
      refine r_iinc (v := v18) X ([(4, .int v18), (0, .ref (ad 13 0 0)), (1, .int a1), (3, .int a3)]) 3 (x_dr DX7_sheet 48 rfl) rfl (by rw [ev18]; rfl) (by decide) rfl ?_
      refine r_goto X 59 (x_dr DX7_sheet 49 rfl) (by decide) ?_
      refine r_norm X [1, 2, 3, 0] ([(0, .ref (ad 13 0 0)), (1, .int a1), (3, .int a3), (4, .int v18)]) rfl ?_
      exact ih _ _ h kk
set_option maxRecDepth 10000 in
theorem k7_sheet {ad : xAd} {G : xG} {l : Launch} {a1 : Int32} {a2 : Int32} {a3 : Int32} {σ : xSt} {Q : Int32 → xSt → Prop}  (h : d7_sheet a1 a2 a3 σ Q) : MC ad G l yX7_sheet cX7_sheet 5 (some .int) 2 42 [.ref (ad 13 0 0), .int a1, .int a2, .int a3] σ (qI Q) := by
  unfold d7_sheet at h
  refine x_MC [(0, .ref (ad 13 0 0)), (1, .int a1), (2, .int a2), (3, .int a3)] (by decide +kernel) rfl (Nat.le_of_ble_eq_true rfl) ?_
  intro E hG hl X
  replace X : FX ad E cX7_sheet 5 RX7 (some .int) 2 42 := X
  refine r_iload_n X (x_dr DX7_sheet 0 rfl) 1 rfl rfl ?_
  refine cl7_isSheet X (k7_isSheet h) ml_7_172 ⟨Nat.le_of_ble_eq_true rfl, Nat.le_of_ble_eq_true rfl⟩ (Nat.le_of_ble_eq_true rfl) (x_dr DX7_sheet 1 rfl) (fun v2 s1 zv2 h => ?_)
  refine r_if_eq X 22 (x_dr DX7_sheet 2 rfl) (by decide) (fun c3 => ?_) (fun c3 => ?_)
  · replace h := h.1 c3
    refine r_bipush (v := (-2)) X (x_dr DX7_sheet 11 rfl) (by decide) ?_
    exact r_iret X rfl (x_dr DX7_sheet 12 rfl) ⟨_, rfl, h⟩
  · replace h := h.2 c3
    refine r_iload_n X (x_dr DX7_sheet 3 rfl) 2 rfl rfl ?_
    refine r_iconst (v := 0) X (x_dr DX7_sheet 4 rfl) (by decide) ?_
    refine r_iconst (v := 2) X (x_dr DX7_sheet 5 rfl) (by decide) ?_
    refine cl7_in X (k7_in h) ml_7_115 ⟨Nat.le_of_ble_eq_true rfl, Nat.le_of_ble_eq_true rfl⟩ (Nat.le_of_ble_eq_true rfl) (x_dr DX7_sheet 6 rfl) (fun v5 s4 zv5 h => ?_)
    refine r_if_eq X 22 (x_dr DX7_sheet 7 rfl) (by decide) (fun c6 => ?_) (fun c6 => ?_)
    · replace h := h.1 c6
      refine r_bipush (v := (-2)) X (x_dr DX7_sheet 11 rfl) (by decide) ?_
      exact r_iret X rfl (x_dr DX7_sheet 12 rfl) ⟨_, rfl, h⟩
    · replace h := h.2 c6
      refine r_iload_n X (x_dr DX7_sheet 8 rfl) 3 rfl rfl ?_
      refine r_bipush (v := 60) X (x_dr DX7_sheet 9 rfl) (by decide) ?_
      refine r_icmp_le X 25 (x_dr DX7_sheet 10 rfl) (by decide) (fun c7 => ?_) (fun c7 => ?_)
      · replace h := h.1 c7
        refine r_iload_n X (x_dr DX7_sheet 13 rfl) 3 rfl rfl ?_
        refine r_if_ge X 35 (x_dr DX7_sheet 14 rfl) (by decide) (fun c8 => ?_) (fun c8 => ?_)
        · replace h := h.1 c8
          refine r_aload_n X (x_dr DX7_sheet 19 rfl) 0 rfl rfl ?_
          refine gf_7_97 X rfl (x_dr DX7_sheet 20 rfl) ?_
          refine r_iload_n X (x_dr DX7_sheet 21 rfl) 1 rfl rfl ?_
          refine r_iconst (v := 1) X (x_dr DX7_sheet 22 rfl) (by decide) ?_
          obtain ⟨b9, h⟩ := h
          refine r_zast X rfl rfl b9 (x_dr DX7_sheet 23 rfl) ?_
          refine r_nmS (fun s10 es10 => ?_)
          replace h := h s10 es10
          refine r_aload_n X (x_dr DX7_sheet 24 rfl) 0 rfl rfl ?_
          refine gf_7_101 X rfl (x_dr DX7_sheet 25 rfl) ?_
          refine r_iload_n X (x_dr DX7_sheet 26 rfl) 1 rfl rfl ?_
          refine r_iload_n X (x_dr DX7_sheet 27 rfl) 2 rfl rfl ?_
          obtain ⟨b11, h⟩ := h
          refine r_iast X rfl rfl b11 (x_dr DX7_sheet 28 rfl) ?_
          refine r_nmS (fun s12 es12 => ?_)
          replace h := h s12 es12
          refine r_aload_n X (x_dr DX7_sheet 29 rfl) 0 rfl rfl ?_
          refine gf_7_104 X rfl (x_dr DX7_sheet 30 rfl) ?_
          refine r_iload_n X (x_dr DX7_sheet 31 rfl) 1 rfl rfl ?_
          refine r_iload_n X (x_dr DX7_sheet 32 rfl) 3 rfl rfl ?_
          obtain ⟨b13, h⟩ := h
          refine r_iast X rfl rfl b13 (x_dr DX7_sheet 33 rfl) ?_
          refine r_nmS (fun s14 es14 => ?_)
          replace h := h s14 es14
          refine r_iconst (v := 0) X (x_dr DX7_sheet 34 rfl) (by decide) ?_
          refine r_istore X ([(4, .int 0), (0, .ref (ad 13 0 0)), (1, .int a1), (2, .int a2), (3, .int a3)]) (x_dr DX7_sheet 35 rfl) (by decide) rfl ?_
          refine r_norm X [1, 2, 4, 0] ([(0, .ref (ad 13 0 0)), (1, .int a1), (3, .int a3), (4, .int 0)]) rfl ?_
          refine w7_sheet_L59 X  _ _ _ h (fun s19 h => ?_)
          refine r_iload_n X (x_dr DX7_sheet 50 rfl) 0 rfl rfl ?_
          exact r_iret X rfl (x_dr DX7_sheet 51 rfl) ⟨_, rfl, h⟩
        · replace h := h.2 c8
          refine r_aload_n X (x_dr DX7_sheet 15 rfl) 0 rfl rfl ?_
          refine r_iconst (v := 5) X (x_dr DX7_sheet 16 rfl) (by decide) ?_
          refine cl7_meets X (k7_meets h) rfl ml_7_175 ⟨Nat.le_of_ble_eq_true rfl, Nat.le_of_ble_eq_true rfl⟩ (Nat.le_of_ble_eq_true rfl) (x_dr DX7_sheet 17 rfl) (fun v21 s20 h => ?_)
          exact r_iret X rfl (x_dr DX7_sheet 18 rfl) ⟨_, rfl, h⟩
      · replace h := h.2 c7
        refine r_bipush (v := (-2)) X (x_dr DX7_sheet 11 rfl) (by decide) ?_
        exact r_iret X rfl (x_dr DX7_sheet 12 rfl) ⟨_, rfl, h⟩
set_option maxRecDepth 10000 in
theorem k7_lose {ad : xAd} {G : xG} {l : Launch} {a1 : Int32} {σ : xSt} {Q : Int32 → xSt → Prop}  (h : d7_lose a1 σ Q) : MC ad G l yX7_lose cX7_lose 2 (some .int) 2 42 [.ref (ad 13 0 0), .int a1] σ (qI Q) := by
  unfold d7_lose at h
  refine x_MC [(0, .ref (ad 13 0 0)), (1, .int a1)] (by decide +kernel) rfl (Nat.le_of_ble_eq_true rfl) ?_
  intro E hG hl X
  replace X : FX ad E cX7_lose 2 RX7 (some .int) 2 42 := X
  refine r_iload_n X (x_dr DX7_lose 0 rfl) 1 rfl rfl ?_
  refine cl7_isSheet X (k7_isSheet h) ml_7_172 ⟨Nat.le_of_ble_eq_true rfl, Nat.le_of_ble_eq_true rfl⟩ (Nat.le_of_ble_eq_true rfl) (x_dr DX7_lose 1 rfl) (fun v2 s1 zv2 h => ?_)
  refine r_if_ne X 10 (x_dr DX7_lose 2 rfl) (by decide) (fun c3 => ?_) (fun c3 => ?_)
  · replace h := h.1 c3
    refine r_aload_n X (x_dr DX7_lose 5 rfl) 0 rfl rfl ?_
    refine gf_7_97 X rfl (x_dr DX7_lose 6 rfl) ?_
    refine r_iload_n X (x_dr DX7_lose 7 rfl) 1 rfl rfl ?_
    obtain ⟨b4, h⟩ := h
    refine r_zald X rfl rfl b4 (x_dr DX7_lose 8 rfl) ?_
    refine r_if_ne X 25 (x_dr DX7_lose 9 rfl) (by decide) (fun c5 => ?_) (fun c5 => ?_)
    · replace h := h.1 c5
      refine r_aload_n X (x_dr DX7_lose 14 rfl) 0 rfl rfl ?_
      refine gf_7_97 X rfl (x_dr DX7_lose 15 rfl) ?_
      refine r_iload_n X (x_dr DX7_lose 16 rfl) 1 rfl rfl ?_
      refine r_iconst (v := 0) X (x_dr DX7_lose 17 rfl) (by decide) ?_
      obtain ⟨b6, h⟩ := h
      refine r_zast X rfl rfl b6 (x_dr DX7_lose 18 rfl) ?_
      refine r_nmS (fun s7 es7 => ?_)
      replace h := h s7 es7
      refine r_aload_n X (x_dr DX7_lose 19 rfl) 0 rfl rfl ?_
      refine gf_7_104 X rfl (x_dr DX7_lose 20 rfl) ?_
      refine r_iload_n X (x_dr DX7_lose 21 rfl) 1 rfl rfl ?_
      obtain ⟨b8, h⟩ := h
      refine r_iald X rfl rfl b8 (x_dr DX7_lose 22 rfl) ?_
      exact r_iret X rfl (x_dr DX7_lose 23 rfl) ⟨_, rfl, h⟩
    · replace h := h.2 c5
      refine r_aload_n X (x_dr DX7_lose 10 rfl) 0 rfl rfl ?_
      refine r_iconst (v := 1) X (x_dr DX7_lose 11 rfl) (by decide) ?_
      refine cl7_meets X (k7_meets h) rfl ml_7_175 ⟨Nat.le_of_ble_eq_true rfl, Nat.le_of_ble_eq_true rfl⟩ (Nat.le_of_ble_eq_true rfl) (x_dr DX7_lose 12 rfl) (fun v10 s9 h => ?_)
      exact r_iret X rfl (x_dr DX7_lose 13 rfl) ⟨_, rfl, h⟩
  · replace h := h.2 c3
    refine r_bipush (v := (-2)) X (x_dr DX7_lose 3 rfl) (by decide) ?_
    exact r_iret X rfl (x_dr DX7_lose 4 rfl) ⟨_, rfl, h⟩
set_option maxRecDepth 10000 in
theorem k7_lacks {ad : xAd} {G : xG} {l : Launch} {a1 : Int32} {a2 : Int32} {a3 : Int32} {σ : xSt} {Q : Int32 → xSt → Prop}  (h : d7_lacks a1 a2 a3 σ Q) : MC ad G l yX7_lacks cX7_lacks 4 (some .int) 1 22 [.ref (ad 13 0 0), .int a1, .int a2, .int a3] σ (qI Q) := by
  unfold d7_lacks at h
  refine x_MC [(0, .ref (ad 13 0 0)), (1, .int a1), (2, .int a2), (3, .int a3)] (by decide +kernel) rfl (Nat.le_of_ble_eq_true rfl) ?_
  intro E hG hl X
  replace X : FX ad E cX7_lacks 4 RX7 (some .int) 1 22 := X
  refine r_aload_n X (x_dr DX7_lacks 0 rfl) 0 rfl rfl ?_
  refine gf_7_97 X rfl (x_dr DX7_lacks 1 rfl) ?_
  refine r_iload_n X (x_dr DX7_lacks 2 rfl) 1 rfl rfl ?_
  obtain ⟨b1, h⟩ := h
  refine r_zald X rfl rfl b1 (x_dr DX7_lacks 3 rfl) ?_
  refine r_if_ne X 13 (x_dr DX7_lacks 4 rfl) (by decide) (fun c2 => ?_) (fun c2 => ?_)
  · replace h := h.1 c2
    refine r_aload_n X (x_dr DX7_lacks 7 rfl) 0 rfl rfl ?_
    refine gf_7_101 X rfl (x_dr DX7_lacks 8 rfl) ?_
    refine r_iload_n X (x_dr DX7_lacks 9 rfl) 1 rfl rfl ?_
    obtain ⟨b3, h⟩ := h
    refine r_iald X rfl rfl b3 (x_dr DX7_lacks 10 rfl) ?_
    refine r_iload_n X (x_dr DX7_lacks 11 rfl) 2 rfl rfl ?_
    refine r_icmp_eq X 27 (x_dr DX7_lacks 12 rfl) (by decide) (fun c4 => ?_) (fun c4 => ?_)
    · replace h := h.1 c4
      refine r_iload_n X (x_dr DX7_lacks 15 rfl) 3 rfl rfl ?_
      refine r_iconst (v := 0) X (x_dr DX7_lacks 16 rfl) (by decide) ?_
      refine r_aload_n X (x_dr DX7_lacks 17 rfl) 0 rfl rfl ?_
      refine gf_7_104 X rfl (x_dr DX7_lacks 18 rfl) ?_
      refine r_iload_n X (x_dr DX7_lacks 19 rfl) 1 rfl rfl ?_
      obtain ⟨b5, h⟩ := h
      refine r_iald X rfl rfl b5 (x_dr DX7_lacks 20 rfl) ?_
      refine r_iconst (v := 1) X (x_dr DX7_lacks 21 rfl) (by decide) ?_
      refine r_isub X (x_dr DX7_lacks 22 rfl) ?_
      refine cl7_in X (k7_in h) ml_7_115 ⟨Nat.le_of_ble_eq_true rfl, Nat.le_of_ble_eq_true rfl⟩ (Nat.le_of_ble_eq_true rfl) (x_dr DX7_lacks 23 rfl) (fun v7 s6 zv7 h => ?_)
      refine r_if_eq X 47 (x_dr DX7_lacks 24 rfl) (by decide) (fun c8 => ?_) (fun c8 => ?_)
      · replace h := h.1 c8
        refine r_iconst (v := 2) X (x_dr DX7_lacks 27 rfl) (by decide) ?_
        exact r_iret X rfl (x_dr DX7_lacks 28 rfl) ⟨_, rfl, h⟩
      · replace h := h.2 c8
        refine r_iconst (v := 0) X (x_dr DX7_lacks 25 rfl) (by decide) ?_
        refine r_goto X 48 (x_dr DX7_lacks 26 rfl) (by decide) ?_
        exact r_iret X rfl (x_dr DX7_lacks 28 rfl) ⟨_, rfl, h⟩
    · replace h := h.2 c4
      refine r_iconst (v := 3) X (x_dr DX7_lacks 13 rfl) (by decide) ?_
      refine r_goto X 48 (x_dr DX7_lacks 14 rfl) (by decide) ?_
      exact r_iret X rfl (x_dr DX7_lacks 28 rfl) ⟨_, rfl, h⟩
  · replace h := h.2 c2
    refine r_iconst (v := 1) X (x_dr DX7_lacks 5 rfl) (by decide) ?_
    refine r_goto X 48 (x_dr DX7_lacks 6 rfl) (by decide) ?_
    exact r_iret X rfl (x_dr DX7_lacks 28 rfl) ⟨_, rfl, h⟩
set_option maxRecDepth 10000 in
theorem k7_keep {ad : xAd} {G : xG} {l : Launch} {a1 : Int32} {a2 : Int32} {a3 : Int32} {σ : xSt} {Q : xSt → Prop}  (h : d7_keep a1 a2 a3 σ Q) : MC ad G l yX7_keep cX7_keep 4 none 0 0 [.ref (ad 13 0 0), .int a1, .int a2, .int a3] σ (qV Q) := by
  unfold d7_keep at h
  refine x_MC [(0, .ref (ad 13 0 0)), (1, .int a1), (2, .int a2), (3, .int a3)] (by decide +kernel) rfl (Nat.le_of_ble_eq_true rfl) ?_
  intro E hG hl X
  replace X : FX ad E cX7_keep 4 RX7 none 0 0 := X
  refine r_aload_n X (x_dr DX7_keep 0 rfl) 0 rfl rfl ?_
  refine gf_7_107 X rfl (x_dr DX7_keep 1 rfl) ?_
  refine r_bipush (v := 60) X (x_dr DX7_keep 2 rfl) (by decide) ?_
  refine r_iload_n X (x_dr DX7_keep 3 rfl) 1 rfl rfl ?_
  refine r_imul X (x_dr DX7_keep 4 rfl) ?_
  refine r_iload_n X (x_dr DX7_keep 5 rfl) 2 rfl rfl ?_
  refine r_iadd X (x_dr DX7_keep 6 rfl) ?_
  refine r_aload_n X (x_dr DX7_keep 7 rfl) 0 rfl rfl ?_
  refine gf_7_101 X rfl (x_dr DX7_keep 8 rfl) ?_
  refine r_iload_n X (x_dr DX7_keep 9 rfl) 1 rfl rfl ?_
  obtain ⟨b1, h⟩ := h
  refine r_iald X rfl rfl b1 (x_dr DX7_keep 10 rfl) ?_
  refine r_if_ne X 24 (x_dr DX7_keep 11 rfl) (by decide) (fun c2 => ?_) (fun c2 => ?_)
  · replace h := h.1 c2
    refine r_aload_n X (x_dr DX7_keep 15 rfl) 0 rfl rfl ?_
    refine gf_7_101 X rfl (x_dr DX7_keep 16 rfl) ?_
    refine r_iload_n X (x_dr DX7_keep 17 rfl) 1 rfl rfl ?_
    obtain ⟨b3, h⟩ := h
    refine r_iald X rfl rfl b3 (x_dr DX7_keep 18 rfl) ?_
    refine r_iconst (v := 1) X (x_dr DX7_keep 19 rfl) (by decide) ?_
    refine r_icmp_ne X 39 (x_dr DX7_keep 20 rfl) (by decide) (fun c4 => ?_) (fun c4 => ?_)
    · replace h := h.1 c4
      refine r_iload_n X (x_dr DX7_keep 24 rfl) 3 rfl rfl ?_
      obtain ⟨b5, h⟩ := h
      refine r_iast X rfl rfl b5 (x_dr DX7_keep 25 rfl) ?_
      refine r_nmS (fun s6 es6 => ?_)
      replace h := h s6 es6
      exact r_vret X rfl (x_dr DX7_keep 26 rfl) ⟨rfl, h⟩
    · replace h := h.2 c4
      refine r_iload_n X (x_dr DX7_keep 21 rfl) 3 rfl rfl ?_
      refine r_i2s X (x_dr DX7_keep 22 rfl) ?_
      refine r_goto X 40 (x_dr DX7_keep 23 rfl) (by decide) ?_
      obtain ⟨b7, h⟩ := h
      refine r_iast X rfl rfl b7 (x_dr DX7_keep 25 rfl) ?_
      refine r_nmS (fun s8 es8 => ?_)
      replace h := h s8 es8
      exact r_vret X rfl (x_dr DX7_keep 26 rfl) ⟨rfl, h⟩
  · replace h := h.2 c2
    refine r_iload_n X (x_dr DX7_keep 12 rfl) 3 rfl rfl ?_
    refine r_i2b X (x_dr DX7_keep 13 rfl) ?_
    refine r_goto X 40 (x_dr DX7_keep 14 rfl) (by decide) ?_
    obtain ⟨b9, h⟩ := h
    refine r_iast X rfl rfl b9 (x_dr DX7_keep 25 rfl) ?_
    refine r_nmS (fun s10 es10 => ?_)
    replace h := h s10 es10
    exact r_vret X rfl (x_dr DX7_keep 26 rfl) ⟨rfl, h⟩
set_option maxRecDepth 10000 in
theorem k7_put {ad : xAd} {G : xG} {l : Launch} {a1 : Int32} {a2 : Int32} {a3 : Int32} {a4 : Int32} {σ : xSt} {Q : Int32 → xSt → Prop}  (h : d7_put a1 a2 a3 a4 σ Q) : MC ad G l yX7_put cX7_put 6 (some .int) 2 45 [.ref (ad 13 0 0), .int a1, .int a2, .int a3, .int a4] σ (qI Q) := by
  unfold d7_put at h
  refine x_MC [(0, .ref (ad 13 0 0)), (1, .int a1), (2, .int a2), (3, .int a3), (4, .int a4)] (by decide +kernel) rfl (Nat.le_of_ble_eq_true rfl) ?_
  intro E hG hl X
  replace X : FX ad E cX7_put 6 RX7 (some .int) 2 45 := X
  refine r_iload_n X (x_dr DX7_put 0 rfl) 1 rfl rfl ?_
  refine cl7_isSheet X (k7_isSheet h) ml_7_172 ⟨Nat.le_of_ble_eq_true rfl, Nat.le_of_ble_eq_true rfl⟩ (Nat.le_of_ble_eq_true rfl) (x_dr DX7_put 1 rfl) (fun v2 s1 zv2 h => ?_)
  refine r_if_eq X 16 (x_dr DX7_put 2 rfl) (by decide) (fun c3 => ?_) (fun c3 => ?_)
  · replace h := h.1 c3
    refine r_bipush (v := (-2)) X (x_dr DX7_put 8 rfl) (by decide) ?_
    exact r_iret X rfl (x_dr DX7_put 9 rfl) ⟨_, rfl, h⟩
  · replace h := h.2 c3
    refine r_iload_n X (x_dr DX7_put 3 rfl) 2 rfl rfl ?_
    refine r_iconst (v := 0) X (x_dr DX7_put 4 rfl) (by decide) ?_
    refine r_iconst (v := 2) X (x_dr DX7_put 5 rfl) (by decide) ?_
    refine cl7_in X (k7_in h) ml_7_115 ⟨Nat.le_of_ble_eq_true rfl, Nat.le_of_ble_eq_true rfl⟩ (Nat.le_of_ble_eq_true rfl) (x_dr DX7_put 6 rfl) (fun v5 s4 zv5 h => ?_)
    refine r_if_ne X 19 (x_dr DX7_put 7 rfl) (by decide) (fun c6 => ?_) (fun c6 => ?_)
    · replace h := h.1 c6
      refine r_aload_n X (x_dr DX7_put 10 rfl) 0 rfl rfl ?_
      refine r_iload_n X (x_dr DX7_put 11 rfl) 1 rfl rfl ?_
      refine r_iload_n X (x_dr DX7_put 12 rfl) 2 rfl rfl ?_
      refine r_iload_n X (x_dr DX7_put 13 rfl) 3 rfl rfl ?_
      refine cl7_lacks X (k7_lacks h) rfl ml_7_335 ⟨Nat.le_of_ble_eq_true rfl, Nat.le_of_ble_eq_true rfl⟩ (Nat.le_of_ble_eq_true rfl) (x_dr DX7_put 14 rfl) (fun v8 s7 h => ?_)
      refine r_istore X ([(5, .int v8), (0, .ref (ad 13 0 0)), (1, .int a1), (2, .int a2), (3, .int a3), (4, .int a4)]) (x_dr DX7_put 15 rfl) (by decide) rfl ?_
      refine r_iload X (x_dr DX7_put 16 rfl) 0 rfl ?_
      refine r_if_le X 40 (x_dr DX7_put 17 rfl) (by decide) (fun c9 => ?_) (fun c9 => ?_)
      · replace h := h.1 c9
        refine r_aload_n X (x_dr DX7_put 22 rfl) 1 rfl rfl ?_
        refine r_iload_n X (x_dr DX7_put 23 rfl) 2 rfl rfl ?_
        refine r_iload_n X (x_dr DX7_put 24 rfl) 4 rfl rfl ?_
        refine r_iload X (x_dr DX7_put 25 rfl) 5 rfl ?_
        refine cl7_keep X (k7_keep h) rfl ml_7_338 ⟨Nat.le_of_ble_eq_true rfl, Nat.le_of_ble_eq_true rfl⟩ (Nat.le_of_ble_eq_true rfl) (x_dr DX7_put 26 rfl) (fun s10 h => ?_)
        refine r_iconst (v := 1) X (x_dr DX7_put 27 rfl) (by decide) ?_
        exact r_iret X rfl (x_dr DX7_put 28 rfl) ⟨_, rfl, h⟩
      · replace h := h.2 c9
        refine r_aload_n X (x_dr DX7_put 18 rfl) 1 rfl rfl ?_
        refine r_iload X (x_dr DX7_put 19 rfl) 0 rfl ?_
        refine cl7_meets X (k7_meets h) rfl ml_7_175 ⟨Nat.le_of_ble_eq_true rfl, Nat.le_of_ble_eq_true rfl⟩ (Nat.le_of_ble_eq_true rfl) (x_dr DX7_put 20 rfl) (fun v12 s11 h => ?_)
        exact r_iret X rfl (x_dr DX7_put 21 rfl) ⟨_, rfl, h⟩
    · replace h := h.2 c6
      refine r_bipush (v := (-2)) X (x_dr DX7_put 8 rfl) (by decide) ?_
      exact r_iret X rfl (x_dr DX7_put 9 rfl) ⟨_, rfl, h⟩
set_option maxRecDepth 10000 in
theorem k7_get {ad : xAd} {G : xG} {l : Launch} {a1 : Int32} {a2 : Int32} {a3 : Int32} {σ : xSt} {Q : Int32 → xSt → Prop}  (h : d7_get a1 a2 a3 σ Q) : MC ad G l yX7_get cX7_get 5 (some .int) 2 45 [.ref (ad 13 0 0), .int a1, .int a2, .int a3] σ (qI Q) := by
  unfold d7_get at h
  refine x_MC [(0, .ref (ad 13 0 0)), (1, .int a1), (2, .int a2), (3, .int a3)] (by decide +kernel) rfl (Nat.le_of_ble_eq_true rfl) ?_
  intro E hG hl X
  replace X : FX ad E cX7_get 5 RX7 (some .int) 2 45 := X
  refine r_iload_n X (x_dr DX7_get 0 rfl) 1 rfl rfl ?_
  refine cl7_isSheet X (k7_isSheet h) ml_7_172 ⟨Nat.le_of_ble_eq_true rfl, Nat.le_of_ble_eq_true rfl⟩ (Nat.le_of_ble_eq_true rfl) (x_dr DX7_get 1 rfl) (fun v2 s1 zv2 h => ?_)
  refine r_if_eq X 16 (x_dr DX7_get 2 rfl) (by decide) (fun c3 => ?_) (fun c3 => ?_)
  · replace h := h.1 c3
    refine r_ldcw X mk_7_341 (x_dr DX7_get 8 rfl) ?_
    exact r_iret X rfl (x_dr DX7_get 9 rfl) ⟨_, rfl, h⟩
  · replace h := h.2 c3
    refine r_iload_n X (x_dr DX7_get 3 rfl) 2 rfl rfl ?_
    refine r_iconst (v := 0) X (x_dr DX7_get 4 rfl) (by decide) ?_
    refine r_iconst (v := 2) X (x_dr DX7_get 5 rfl) (by decide) ?_
    refine cl7_in X (k7_in h) ml_7_115 ⟨Nat.le_of_ble_eq_true rfl, Nat.le_of_ble_eq_true rfl⟩ (Nat.le_of_ble_eq_true rfl) (x_dr DX7_get 6 rfl) (fun v5 s4 zv5 h => ?_)
    refine r_if_ne X 20 (x_dr DX7_get 7 rfl) (by decide) (fun c6 => ?_) (fun c6 => ?_)
    · replace h := h.1 c6
      refine r_aload_n X (x_dr DX7_get 10 rfl) 0 rfl rfl ?_
      refine r_iload_n X (x_dr DX7_get 11 rfl) 1 rfl rfl ?_
      refine r_iload_n X (x_dr DX7_get 12 rfl) 2 rfl rfl ?_
      refine r_iload_n X (x_dr DX7_get 13 rfl) 3 rfl rfl ?_
      refine cl7_lacks X (k7_lacks h) rfl ml_7_335 ⟨Nat.le_of_ble_eq_true rfl, Nat.le_of_ble_eq_true rfl⟩ (Nat.le_of_ble_eq_true rfl) (x_dr DX7_get 14 rfl) (fun v8 s7 h => ?_)
      refine r_istore X ([(4, .int v8), (0, .ref (ad 13 0 0)), (1, .int a1), (2, .int a2), (3, .int a3)]) (x_dr DX7_get 15 rfl) (by decide) rfl ?_
      refine r_iload X (x_dr DX7_get 16 rfl) 0 rfl ?_
      refine r_if_le X 44 (x_dr DX7_get 17 rfl) (by decide) (fun c9 => ?_) (fun c9 => ?_)
      · replace h := h.1 c9
        refine r_aload_n X (x_dr DX7_get 23 rfl) 1 rfl rfl ?_
        refine gf_7_107 X rfl (x_dr DX7_get 24 rfl) ?_
        refine r_bipush (v := 60) X (x_dr DX7_get 25 rfl) (by decide) ?_
        refine r_iload_n X (x_dr DX7_get 26 rfl) 2 rfl rfl ?_
        refine r_imul X (x_dr DX7_get 27 rfl) ?_
        refine r_iload_n X (x_dr DX7_get 28 rfl) 4 rfl rfl ?_
        refine r_iadd X (x_dr DX7_get 29 rfl) ?_
        obtain ⟨b10, h⟩ := h
        refine r_iald X rfl rfl b10 (x_dr DX7_get 30 rfl) ?_
        exact r_iret X rfl (x_dr DX7_get 31 rfl) ⟨_, rfl, h⟩
      · replace h := h.2 c9
        refine r_aload_n X (x_dr DX7_get 18 rfl) 1 rfl rfl ?_
        refine r_iload X (x_dr DX7_get 19 rfl) 0 rfl ?_
        refine pf_7_332 X rfl (x_dr DX7_get 20 rfl) ?_
        refine r_nmS (fun s11 es11 => ?_)
        replace h := h s11 es11
        refine r_ldcw X mk_7_341 (x_dr DX7_get 21 rfl) ?_
        exact r_iret X rfl (x_dr DX7_get 22 rfl) ⟨_, rfl, h⟩
    · replace h := h.2 c6
      refine r_ldcw X mk_7_341 (x_dr DX7_get 8 rfl) ?_
      exact r_iret X rfl (x_dr DX7_get 9 rfl) ⟨_, rfl, h⟩
set_option maxRecDepth 10000 in
theorem w7_copy_L120 {ad : xAd} {E : xE} (X : FX ad E cX7_copy 7 RX7 (some .int) 2 42)   {a1 : Int32} {a2 : Int32} {a3 : Int32} {a4 : Int32} {a5 : Int32} {K : xSt → Prop} {Q : Int32 → xSt → Prop} : ∀ (n : Nat) (a6 : Int32) (σ : xSt), d7_copy_L120 a1 a2 a3 a4 a5 K Q n a6 σ → (∀ (s : xSt), K  s → KK ad E (qI Q) 154 ([(0, .ref (ad 13 0 0)), (3, .int a3), (4, .int a4), (5, .int a5)]) [] s) → KK ad E (qI Q) 120 ([(0, .ref (ad 13 0 0)), (1, .int a1), (2, .int a2), (3, .int a3), (4, .int a4), (5, .int a5), (6, .int a6)]) [] σ := by
  intro n
  induction n with
  | zero => intro a6 σ h kk; exact h.elim
  | succ n ih =>
    intro a6 σ h kk
    rw [d7_copy_L120] at h
    refine r_iload X (x_dr DX7_copy 71 rfl) 6 rfl ?_
    refine r_iload X (x_dr DX7_copy 72 rfl) 5 rfl ?_
    refine r_icmp_ge X 154 (x_dr DX7_copy 73 rfl) (by decide) (fun c31 => ?_) (fun c31 => ?_)
    · replace h := h.1 c31
      refine r_norm X [0, 3, 4, 5] ([(0, .ref (ad 13 0 0)), (3, .int a3), (4, .int a4), (5, .int a5)]) rfl ?_
      exact kk  _ h
    · replace h := h.2 c31
      refine r_aload_n X (x_dr DX7_copy 74 rfl) 0 rfl rfl ?_
      refine gf_7_110 X rfl (x_dr DX7_copy 75 rfl) ?_
      refine r_iload X (x_dr DX7_copy 76 rfl) 6 rfl ?_
      refine r_aload_n X (x_dr DX7_copy 77 rfl) 0 rfl rfl ?_
      refine gf_7_107 X rfl (x_dr DX7_copy 78 rfl) ?_
      refine r_bipush (v := 60) X (x_dr DX7_copy 79 rfl) (by decide) ?_
      refine r_iload_n X (x_dr DX7_copy 80 rfl) 1 rfl rfl ?_
      refine r_imul X (x_dr DX7_copy 81 rfl) ?_
      refine r_iload_n X (x_dr DX7_copy 82 rfl) 2 rfl rfl ?_
      refine r_iadd X (x_dr DX7_copy 83 rfl) ?_
      refine r_iload X (x_dr DX7_copy 84 rfl) 6 rfl ?_
      refine r_iadd X (x_dr DX7_copy 85 rfl) ?_
      obtain ⟨b32, h⟩ := h
      refine r_iald X rfl rfl b32 (x_dr DX7_copy 86 rfl) ?_
      obtain ⟨b33, h⟩ := h
      refine r_iast X rfl rfl b33 (x_dr DX7_copy 87 rfl) ?_
      refine r_nmS (fun s34 es34 => ?_)
      replace h := h s34 es34
      obtain ⟨v35, ev35⟩ : ∃ z : Int32, z = a6 + 1 := ⟨_, rfl⟩
      replace h := h v35 ev35
      refine r_iinc (v := v35) X ([(6, .int v35), (0, .ref (ad 13 0 0)), (1, .int a1), (2, .int a2), (3, .int a3), (4, .int a4), (5, .int a5)]) 6 (x_dr DX7_copy 88 rfl) rfl (by rw [ev35]; rfl) (by decide) rfl ?_
      refine r_goto X 120 (x_dr DX7_copy 89 rfl) (by decide) ?_
      refine r_norm X [1, 2, 3, 4, 5, 6, 0] ([(0, .ref (ad 13 0 0)), (1, .int a1), (2, .int a2), (3, .int a3), (4, .int a4), (5, .int a5), (6, .int v35)]) rfl ?_
      exact ih _ _ h kk
set_option maxRecDepth 10000 in
theorem w7_copy_L157 {ad : xAd} {E : xE} (X : FX ad E cX7_copy 7 RX7 (some .int) 2 42)   {a3 : Int32} {a4 : Int32} {a5 : Int32} {K : xSt → Prop} {Q : Int32 → xSt → Prop} : ∀ (n : Nat) (a6 : Int32) (σ : xSt), d7_copy_L157 a3 a4 a5 K Q n a6 σ → (∀ (s : xSt), K  s → KK ad E (qI Q) 192 ([]) [] s) → KK ad E (qI Q) 157 ([(0, .ref (ad 13 0 0)), (3, .int a3), (4, .int a4), (5, .int a5), (6, .int a6)]) [] σ := by
  intro n
  induction n with
  | zero => intro a6 σ h kk; exact h.elim
  | succ n ih =>
    intro a6 σ h kk
    rw [d7_copy_L157] at h
    refine r_iload X (x_dr DX7_copy 92 rfl) 4 rfl ?_
    refine r_iload X (x_dr DX7_copy 93 rfl) 3 rfl ?_
    refine r_icmp_ge X 192 (x_dr DX7_copy 94 rfl) (by decide) (fun c37 => ?_) (fun c37 => ?_)
    · replace h := h.1 c37
      refine r_norm X [] ([]) rfl ?_
      exact kk  _ h
    · replace h := h.2 c37
      refine r_aload_n X (x_dr DX7_copy 95 rfl) 0 rfl rfl ?_
      refine gf_7_107 X rfl (x_dr DX7_copy 96 rfl) ?_
      refine r_bipush (v := 60) X (x_dr DX7_copy 97 rfl) (by decide) ?_
      refine r_iload_n X (x_dr DX7_copy 98 rfl) 1 rfl rfl ?_
      refine r_imul X (x_dr DX7_copy 99 rfl) ?_
      refine r_iload X (x_dr DX7_copy 100 rfl) 2 rfl ?_
      refine r_iadd X (x_dr DX7_copy 101 rfl) ?_
      refine r_iload X (x_dr DX7_copy 102 rfl) 4 rfl ?_
      refine r_iadd X (x_dr DX7_copy 103 rfl) ?_
      refine r_aload_n X (x_dr DX7_copy 104 rfl) 0 rfl rfl ?_
      refine gf_7_110 X rfl (x_dr DX7_copy 105 rfl) ?_
      refine r_iload X (x_dr DX7_copy 106 rfl) 4 rfl ?_
      obtain ⟨b38, h⟩ := h
      refine r_iald X rfl rfl b38 (x_dr DX7_copy 107 rfl) ?_
      obtain ⟨b39, h⟩ := h
      refine r_iast X rfl rfl b39 (x_dr DX7_copy 108 rfl) ?_
      refine r_nmS (fun s40 es40 => ?_)
      replace h := h s40 es40
      obtain ⟨v41, ev41⟩ : ∃ z : Int32, z = a6 + 1 := ⟨_, rfl⟩
      replace h := h v41 ev41
      refine r_iinc (v := v41) X ([(6, .int v41), (0, .ref (ad 13 0 0)), (3, .int a3), (4, .int a4), (5, .int a5)]) 4 (x_dr DX7_copy 109 rfl) rfl (by rw [ev41]; rfl) (by decide) rfl ?_
      refine r_goto X 157 (x_dr DX7_copy 110 rfl) (by decide) ?_
      refine r_norm X [1, 2, 3, 4, 0] ([(0, .ref (ad 13 0 0)), (3, .int a3), (4, .int a4), (5, .int a5), (6, .int v41)]) rfl ?_
      exact ih _ _ h kk
set_option maxRecDepth 10000 in
theorem k7_copy {ad : xAd} {G : xG} {l : Launch} {a1 : Int32} {a2 : Int32} {a3 : Int32} {a4 : Int32} {a5 : Int32} {σ : xSt} {Q : Int32 → xSt → Prop}  (h : d7_copy a1 a2 a3 a4 a5 σ Q) : MC ad G l yX7_copy cX7_copy 7 (some .int) 2 42 [.ref (ad 13 0 0), .int a1, .int a2, .int a3, .int a4, .int a5] σ (qI Q) := by
  unfold d7_copy at h
  refine x_MC [(0, .ref (ad 13 0 0)), (1, .int a1), (2, .int a2), (3, .int a3), (4, .int a4), (5, .int a5)] (by decide +kernel) rfl (Nat.le_of_ble_eq_true rfl) ?_
  intro E hG hl X
  replace X : FX ad E cX7_copy 7 RX7 (some .int) 2 42 := X
  refine r_iload_n X (x_dr DX7_copy 0 rfl) 1 rfl rfl ?_
  refine cl7_isSheet X (k7_isSheet h) ml_7_172 ⟨Nat.le_of_ble_eq_true rfl, Nat.le_of_ble_eq_true rfl⟩ (Nat.le_of_ble_eq_true rfl) (x_dr DX7_copy 1 rfl) (fun v2 s1 zv2 h => ?_)
  refine r_if_eq X 14 (x_dr DX7_copy 2 rfl) (by decide) (fun c3 => ?_) (fun c3 => ?_)
  · replace h := h.1 c3
    refine r_bipush (v := (-2)) X (x_dr DX7_copy 6 rfl) (by decide) ?_
    exact r_iret X rfl (x_dr DX7_copy 7 rfl) ⟨_, rfl, h⟩
  · replace h := h.2 c3
    refine r_iload_n X (x_dr DX7_copy 3 rfl) 3 rfl rfl ?_
    refine cl7_isSheet X (k7_isSheet h) ml_7_172 ⟨Nat.le_of_ble_eq_true rfl, Nat.le_of_ble_eq_true rfl⟩ (Nat.le_of_ble_eq_true rfl) (x_dr DX7_copy 4 rfl) (fun v5 s4 zv5 h => ?_)
    refine r_if_ne X 17 (x_dr DX7_copy 5 rfl) (by decide) (fun c6 => ?_) (fun c6 => ?_)
    · replace h := h.1 c6
      refine r_aload_n X (x_dr DX7_copy 8 rfl) 0 rfl rfl ?_
      refine gf_7_97 X rfl (x_dr DX7_copy 9 rfl) ?_
      refine r_iload_n X (x_dr DX7_copy 10 rfl) 1 rfl rfl ?_
      obtain ⟨b7, h⟩ := h
      refine r_zald X rfl rfl b7 (x_dr DX7_copy 11 rfl) ?_
      refine r_if_eq X 35 (x_dr DX7_copy 12 rfl) (by decide) (fun c8 => ?_) (fun c8 => ?_)
      · replace h := h.1 c8
        refine r_aload_n X (x_dr DX7_copy 18 rfl) 0 rfl rfl ?_
        refine r_iconst (v := 1) X (x_dr DX7_copy 19 rfl) (by decide) ?_
        refine cl7_meets X (k7_meets h) rfl ml_7_175 ⟨Nat.le_of_ble_eq_true rfl, Nat.le_of_ble_eq_true rfl⟩ (Nat.le_of_ble_eq_true rfl) (x_dr DX7_copy 20 rfl) (fun v10 s9 h => ?_)
        exact r_iret X rfl (x_dr DX7_copy 21 rfl) ⟨_, rfl, h⟩
      · replace h := h.2 c8
        refine r_aload_n X (x_dr DX7_copy 13 rfl) 0 rfl rfl ?_
        refine gf_7_97 X rfl (x_dr DX7_copy 14 rfl) ?_
        refine r_iload_n X (x_dr DX7_copy 15 rfl) 3 rfl rfl ?_
        obtain ⟨b11, h⟩ := h
        refine r_zald X rfl rfl b11 (x_dr DX7_copy 16 rfl) ?_
        refine r_if_ne X 41 (x_dr DX7_copy 17 rfl) (by decide) (fun c12 => ?_) (fun c12 => ?_)
        · replace h := h.1 c12
          refine r_aload_n X (x_dr DX7_copy 22 rfl) 0 rfl rfl ?_
          refine gf_7_101 X rfl (x_dr DX7_copy 23 rfl) ?_
          refine r_iload_n X (x_dr DX7_copy 24 rfl) 1 rfl rfl ?_
          obtain ⟨b13, h⟩ := h
          refine r_iald X rfl rfl b13 (x_dr DX7_copy 25 rfl) ?_
          refine r_aload_n X (x_dr DX7_copy 26 rfl) 0 rfl rfl ?_
          refine gf_7_101 X rfl (x_dr DX7_copy 27 rfl) ?_
          refine r_iload_n X (x_dr DX7_copy 28 rfl) 3 rfl rfl ?_
          obtain ⟨b14, h⟩ := h
          refine r_iald X rfl rfl b14 (x_dr DX7_copy 29 rfl) ?_
          refine r_icmp_eq X 62 (x_dr DX7_copy 30 rfl) (by decide) (fun c15 => ?_) (fun c15 => ?_)
          · replace h := h.1 c15
            refine r_iload_n X (x_dr DX7_copy 35 rfl) 2 rfl rfl ?_
            refine r_if_lt X 111 (x_dr DX7_copy 36 rfl) (by decide) (fun c16 => ?_) (fun c16 => ?_)
            · replace h := h.1 c16
              refine r_aload_n X (x_dr DX7_copy 65 rfl) 0 rfl rfl ?_
              refine r_iconst (v := 2) X (x_dr DX7_copy 66 rfl) (by decide) ?_
              refine cl7_meets X (k7_meets h) rfl ml_7_175 ⟨Nat.le_of_ble_eq_true rfl, Nat.le_of_ble_eq_true rfl⟩ (Nat.le_of_ble_eq_true rfl) (x_dr DX7_copy 67 rfl) (fun v18 s17 h => ?_)
              exact r_iret X rfl (x_dr DX7_copy 68 rfl) ⟨_, rfl, h⟩
            · replace h := h.2 c16
              refine r_iload X (x_dr DX7_copy 37 rfl) 4 rfl ?_
              refine r_if_lt X 111 (x_dr DX7_copy 38 rfl) (by decide) (fun c19 => ?_) (fun c19 => ?_)
              · replace h := h.1 c19
                refine r_aload_n X (x_dr DX7_copy 65 rfl) 0 rfl rfl ?_
                refine r_iconst (v := 2) X (x_dr DX7_copy 66 rfl) (by decide) ?_
                refine cl7_meets X (k7_meets h) rfl ml_7_175 ⟨Nat.le_of_ble_eq_true rfl, Nat.le_of_ble_eq_true rfl⟩ (Nat.le_of_ble_eq_true rfl) (x_dr DX7_copy 67 rfl) (fun v21 s20 h => ?_)
                exact r_iret X rfl (x_dr DX7_copy 68 rfl) ⟨_, rfl, h⟩
              · replace h := h.2 c19
                refine r_iload X (x_dr DX7_copy 39 rfl) 5 rfl ?_
                refine r_if_lt X 111 (x_dr DX7_copy 40 rfl) (by decide) (fun c22 => ?_) (fun c22 => ?_)
                · replace h := h.1 c22
                  refine r_aload_n X (x_dr DX7_copy 65 rfl) 0 rfl rfl ?_
                  refine r_iconst (v := 2) X (x_dr DX7_copy 66 rfl) (by decide) ?_
                  refine cl7_meets X (k7_meets h) rfl ml_7_175 ⟨Nat.le_of_ble_eq_true rfl, Nat.le_of_ble_eq_true rfl⟩ (Nat.le_of_ble_eq_true rfl) (x_dr DX7_copy 67 rfl) (fun v24 s23 h => ?_)
                  exact r_iret X rfl (x_dr DX7_copy 68 rfl) ⟨_, rfl, h⟩
                · replace h := h.2 c22
                  refine r_iload_n X (x_dr DX7_copy 41 rfl) 2 rfl rfl ?_
                  refine r_i2l X (x_dr DX7_copy 42 rfl) ?_
                  refine r_iload X (x_dr DX7_copy 43 rfl) 5 rfl ?_
                  refine r_i2l X (x_dr DX7_copy 44 rfl) ?_
                  refine r_ladd X (x_dr DX7_copy 45 rfl) ?_
                  refine r_aload_n X (x_dr DX7_copy 46 rfl) 0 rfl rfl ?_
                  refine gf_7_104 X rfl (x_dr DX7_copy 47 rfl) ?_
                  refine r_iload_n X (x_dr DX7_copy 48 rfl) 1 rfl rfl ?_
                  obtain ⟨b25, h⟩ := h
                  refine r_iald X rfl rfl b25 (x_dr DX7_copy 49 rfl) ?_
                  refine r_i2l X (x_dr DX7_copy 50 rfl) ?_
                  refine r_lcmp X (x_dr DX7_copy 51 rfl) ?_
                  refine r_if_gt X 111 (x_dr DX7_copy 52 rfl) (by decide) (fun c26 => ?_) (fun c26 => ?_)
                  · replace h := h.1 c26
                    refine r_aload_n X (x_dr DX7_copy 65 rfl) 0 rfl rfl ?_
                    refine r_iconst (v := 2) X (x_dr DX7_copy 66 rfl) (by decide) ?_
                    refine cl7_meets X (k7_meets h) rfl ml_7_175 ⟨Nat.le_of_ble_eq_true rfl, Nat.le_of_ble_eq_true rfl⟩ (Nat.le_of_ble_eq_true rfl) (x_dr DX7_copy 67 rfl) (fun v28 s27 h => ?_)
                    exact r_iret X rfl (x_dr DX7_copy 68 rfl) ⟨_, rfl, h⟩
                  · replace h := h.2 c26
                    refine r_iload X (x_dr DX7_copy 53 rfl) 4 rfl ?_
                    refine r_i2l X (x_dr DX7_copy 54 rfl) ?_
                    refine r_iload X (x_dr DX7_copy 55 rfl) 5 rfl ?_
                    refine r_i2l X (x_dr DX7_copy 56 rfl) ?_
                    refine r_ladd X (x_dr DX7_copy 57 rfl) ?_
                    refine r_aload_n X (x_dr DX7_copy 58 rfl) 0 rfl rfl ?_
                    refine gf_7_104 X rfl (x_dr DX7_copy 59 rfl) ?_
                    refine r_iload_n X (x_dr DX7_copy 60 rfl) 3 rfl rfl ?_
                    obtain ⟨b29, h⟩ := h
                    refine r_iald X rfl rfl b29 (x_dr DX7_copy 61 rfl) ?_
                    refine r_i2l X (x_dr DX7_copy 62 rfl) ?_
                    refine r_lcmp X (x_dr DX7_copy 63 rfl) ?_
                    refine r_if_le X 117 (x_dr DX7_copy 64 rfl) (by decide) (fun c30 => ?_) (fun c30 => ?_)
                    · replace h := h.1 c30
                      refine r_iconst (v := 0) X (x_dr DX7_copy 69 rfl) (by decide) ?_
                      refine r_istore X ([(6, .int 0), (0, .ref (ad 13 0 0)), (1, .int a1), (2, .int a2), (3, .int a3), (4, .int a4), (5, .int a5)]) (x_dr DX7_copy 70 rfl) (by decide) rfl ?_
                      refine r_norm X [1, 2, 3, 4, 5, 6, 0] ([(0, .ref (ad 13 0 0)), (1, .int a1), (2, .int a2), (3, .int a3), (4, .int a4), (5, .int a5), (6, .int 0)]) rfl ?_
                      refine w7_copy_L120 X  _ _ _ h (fun s36 h => ?_)
                      refine r_iconst (v := 0) X (x_dr DX7_copy 90 rfl) (by decide) ?_
                      refine r_istore X ([(6, .int 0), (0, .ref (ad 13 0 0)), (3, .int a3), (4, .int a4), (5, .int a5)]) (x_dr DX7_copy 91 rfl) (by decide) rfl ?_
                      refine r_norm X [1, 2, 3, 4, 0] ([(0, .ref (ad 13 0 0)), (3, .int a3), (4, .int a4), (5, .int a5), (6, .int 0)]) rfl ?_
                      refine w7_copy_L157 X  _ _ _ h (fun s42 h => ?_)
                      refine r_iconst (v := 1) X (x_dr DX7_copy 111 rfl) (by decide) ?_
                      exact r_iret X rfl (x_dr DX7_copy 112 rfl) ⟨_, rfl, h⟩
                    · replace h := h.2 c30
                      refine r_aload_n X (x_dr DX7_copy 65 rfl) 0 rfl rfl ?_
                      refine r_iconst (v := 2) X (x_dr DX7_copy 66 rfl) (by decide) ?_
                      refine cl7_meets X (k7_meets h) rfl ml_7_175 ⟨Nat.le_of_ble_eq_true rfl, Nat.le_of_ble_eq_true rfl⟩ (Nat.le_of_ble_eq_true rfl) (x_dr DX7_copy 67 rfl) (fun v44 s43 h => ?_)
                      exact r_iret X rfl (x_dr DX7_copy 68 rfl) ⟨_, rfl, h⟩
          · replace h := h.2 c15
            refine r_aload_n X (x_dr DX7_copy 31 rfl) 0 rfl rfl ?_
            refine r_iconst (v := 4) X (x_dr DX7_copy 32 rfl) (by decide) ?_
            refine cl7_meets X (k7_meets h) rfl ml_7_175 ⟨Nat.le_of_ble_eq_true rfl, Nat.le_of_ble_eq_true rfl⟩ (Nat.le_of_ble_eq_true rfl) (x_dr DX7_copy 33 rfl) (fun v46 s45 h => ?_)
            exact r_iret X rfl (x_dr DX7_copy 34 rfl) ⟨_, rfl, h⟩
        · replace h := h.2 c12
          refine r_aload_n X (x_dr DX7_copy 18 rfl) 0 rfl rfl ?_
          refine r_iconst (v := 1) X (x_dr DX7_copy 19 rfl) (by decide) ?_
          refine cl7_meets X (k7_meets h) rfl ml_7_175 ⟨Nat.le_of_ble_eq_true rfl, Nat.le_of_ble_eq_true rfl⟩ (Nat.le_of_ble_eq_true rfl) (x_dr DX7_copy 20 rfl) (fun v48 s47 h => ?_)
          exact r_iret X rfl (x_dr DX7_copy 21 rfl) ⟨_, rfl, h⟩
    · replace h := h.2 c6
      refine r_bipush (v := (-2)) X (x_dr DX7_copy 6 rfl) (by decide) ?_
      exact r_iret X rfl (x_dr DX7_copy 7 rfl) ⟨_, rfl, h⟩
set_option maxRecDepth 10000 in
theorem w7_write_L38 {ad : xAd} {E : xE} (X : FX ad E cX7_write 4 RX7 (some .int) 8 175)   {a1 : Int32} {a2 : Int32} {K : Int32 → xSt → Prop} {Q : Int32 → xSt → Prop} : ∀ (n : Nat) (a3 : Int32) (σ : xSt), d7_write_L38 a1 a2 K Q n a3 σ → (∀ (a3 : Int32) (s : xSt), K a3 s → KK ad E (qI Q) 77 ([(3, .int a3)]) [] s) → KK ad E (qI Q) 38 ([(0, .ref (ad 13 0 0)), (1, .int a1), (2, .int a2), (3, .int a3)]) [] σ := by
  intro n
  induction n with
  | zero => intro a3 σ h kk; exact h.elim
  | succ n ih =>
    intro a3 σ h kk
    rw [d7_write_L38] at h
    refine r_iload_n X (x_dr DX7_write 21 rfl) 3 rfl rfl ?_
    refine r_aload_n X (x_dr DX7_write 22 rfl) 0 rfl rfl ?_
    refine gf_7_104 X rfl (x_dr DX7_write 23 rfl) ?_
    refine r_iload_n X (x_dr DX7_write 24 rfl) 2 rfl rfl ?_
    obtain ⟨b10, h⟩ := h
    refine r_iald X rfl rfl b10 (x_dr DX7_write 25 rfl) ?_
    refine r_icmp_ge X 77 (x_dr DX7_write 26 rfl) (by decide) (fun c11 => ?_) (fun c11 => ?_)
    · replace h := h.1 c11
      refine r_norm X [3] ([(3, .int a3)]) rfl ?_
      exact kk _ _ h
    · replace h := h.2 c11
      refine r_iload_n X (x_dr DX7_write 27 rfl) 3 rfl rfl ?_
      refine r_bipush (v := 12) X (x_dr DX7_write 28 rfl) (by decide) ?_
      refine r_icmp_ge X 77 (x_dr DX7_write 29 rfl) (by decide) (fun c12 => ?_) (fun c12 => ?_)
      · replace h := h.1 c12
        refine r_norm X [3] ([(3, .int a3)]) rfl ?_
        exact kk _ _ h
      · replace h := h.2 c12
        refine r_aload_n X (x_dr DX7_write 30 rfl) 0 rfl rfl ?_
        refine r_iload_n X (x_dr DX7_write 31 rfl) 2 rfl rfl ?_
        refine r_iload_n X (x_dr DX7_write 32 rfl) 3 rfl rfl ?_
        refine r_aload_n X (x_dr DX7_write 33 rfl) 0 rfl rfl ?_
        refine gf_7_61 X rfl (x_dr DX7_write 34 rfl) ?_
        refine r_bipush (v := 12) X (x_dr DX7_write 35 rfl) (by decide) ?_
        refine r_iload_n X (x_dr DX7_write 36 rfl) 1 rfl rfl ?_
        refine r_imul X (x_dr DX7_write 37 rfl) ?_
        refine r_iload_n X (x_dr DX7_write 38 rfl) 3 rfl rfl ?_
        refine r_iadd X (x_dr DX7_write 39 rfl) ?_
        obtain ⟨b13, h⟩ := h
        refine r_iald X rfl rfl b13 (x_dr DX7_write 40 rfl) ?_
        refine cl7_keep X (k7_keep h) rfl ml_7_338 ⟨Nat.le_of_ble_eq_true rfl, Nat.le_of_ble_eq_true rfl⟩ (Nat.le_of_ble_eq_true rfl) (x_dr DX7_write 41 rfl) (fun s14 h => ?_)
        obtain ⟨v15, ev15⟩ : ∃ z : Int32, z = a3 + 1 := ⟨_, rfl⟩
        replace h := h v15 ev15
        refine r_iinc (v := v15) X ([(3, .int v15), (0, .ref (ad 13 0 0)), (1, .int a1), (2, .int a2)]) 3 (x_dr DX7_write 42 rfl) rfl (by rw [ev15]; rfl) (by decide) rfl ?_
        refine r_goto X 38 (x_dr DX7_write 43 rfl) (by decide) ?_
        refine r_norm X [1, 2, 3, 0] ([(0, .ref (ad 13 0 0)), (1, .int a1), (2, .int a2), (3, .int v15)]) rfl ?_
        exact ih _ _ h kk
set_option maxRecDepth 10000 in
theorem k7_write {ad : xAd} {G : xG} {l : Launch} {a1 : Int32} {a2 : Int32} {σ : xSt} {Q : Int32 → xSt → Prop}  (h : d7_write a1 a2 σ Q) : MC ad G l yX7_write cX7_write 4 (some .int) 8 175 [.ref (ad 13 0 0), .int a1, .int a2] σ (qI Q) := by
  unfold d7_write at h
  refine x_MC [(0, .ref (ad 13 0 0)), (1, .int a1), (2, .int a2)] (by decide +kernel) rfl (Nat.le_of_ble_eq_true rfl) ?_
  intro E hG hl X
  replace X : FX ad E cX7_write 4 RX7 (some .int) 8 175 := X
  refine r_iload_n X (x_dr DX7_write 0 rfl) 1 rfl rfl ?_
  refine cl7_isHour X (k7_isHour h) ml_7_166 ⟨Nat.le_of_ble_eq_true rfl, Nat.le_of_ble_eq_true rfl⟩ (Nat.le_of_ble_eq_true rfl) (x_dr DX7_write 1 rfl) (fun v2 s1 zv2 h => ?_)
  refine r_if_eq X 14 (x_dr DX7_write 2 rfl) (by decide) (fun c3 => ?_) (fun c3 => ?_)
  · replace h := h.1 c3
    refine r_bipush (v := (-2)) X (x_dr DX7_write 6 rfl) (by decide) ?_
    exact r_iret X rfl (x_dr DX7_write 7 rfl) ⟨_, rfl, h⟩
  · replace h := h.2 c3
    refine r_iload_n X (x_dr DX7_write 3 rfl) 2 rfl rfl ?_
    refine cl7_isSheet X (k7_isSheet h) ml_7_172 ⟨Nat.le_of_ble_eq_true rfl, Nat.le_of_ble_eq_true rfl⟩ (Nat.le_of_ble_eq_true rfl) (x_dr DX7_write 4 rfl) (fun v5 s4 zv5 h => ?_)
    refine r_if_ne X 17 (x_dr DX7_write 5 rfl) (by decide) (fun c6 => ?_) (fun c6 => ?_)
    · replace h := h.1 c6
      refine r_aload_n X (x_dr DX7_write 8 rfl) 0 rfl rfl ?_
      refine gf_7_97 X rfl (x_dr DX7_write 9 rfl) ?_
      refine r_iload_n X (x_dr DX7_write 10 rfl) 2 rfl rfl ?_
      obtain ⟨b7, h⟩ := h
      refine r_zald X rfl rfl b7 (x_dr DX7_write 11 rfl) ?_
      refine r_if_ne X 32 (x_dr DX7_write 12 rfl) (by decide) (fun c8 => ?_) (fun c8 => ?_)
      · replace h := h.1 c8
        refine r_aload_n X (x_dr DX7_write 17 rfl) 0 rfl rfl ?_
        refine cl7_runsTold X (k7_runsTold h) rfl ml_7_239 ⟨Nat.le_of_ble_eq_true rfl, Nat.le_of_ble_eq_true rfl⟩ (Nat.le_of_ble_eq_true rfl) (x_dr DX7_write 18 rfl) (fun s9 h => ?_)
        refine r_iconst (v := 0) X (x_dr DX7_write 19 rfl) (by decide) ?_
        refine r_istore_n X ([(3, .int 0), (0, .ref (ad 13 0 0)), (1, .int a1), (2, .int a2)]) (x_dr DX7_write 20 rfl) rfl (by decide) rfl ?_
        refine r_norm X [1, 2, 3, 0] ([(0, .ref (ad 13 0 0)), (1, .int a1), (2, .int a2), (3, .int 0)]) rfl ?_
        refine w7_write_L38 X  _ _ _ h (fun v17 s16 h => ?_)
        refine r_iload_n X (x_dr DX7_write 44 rfl) 0 rfl rfl ?_
        exact r_iret X rfl (x_dr DX7_write 45 rfl) ⟨_, rfl, h⟩
      · replace h := h.2 c8
        refine r_aload_n X (x_dr DX7_write 13 rfl) 0 rfl rfl ?_
        refine r_iconst (v := 1) X (x_dr DX7_write 14 rfl) (by decide) ?_
        refine cl7_meets X (k7_meets h) rfl ml_7_175 ⟨Nat.le_of_ble_eq_true rfl, Nat.le_of_ble_eq_true rfl⟩ (Nat.le_of_ble_eq_true rfl) (x_dr DX7_write 15 rfl) (fun v19 s18 h => ?_)
        exact r_iret X rfl (x_dr DX7_write 16 rfl) ⟨_, rfl, h⟩
    · replace h := h.2 c6
      refine r_bipush (v := (-2)) X (x_dr DX7_write 6 rfl) (by decide) ?_
      exact r_iret X rfl (x_dr DX7_write 7 rfl) ⟨_, rfl, h⟩
set_option maxRecDepth 10000 in
theorem w7_sumOf_L11 {ad : xAd} {E : xE} (X : FX ad E cX7_sumOf 5 RX7 (some .int) 8 175)   {a1 : Int32} {a3 : Int32} {K : Int32 → xSt → Prop} {Q : Int32 → xSt → Prop} : ∀ (n : Nat) (a2 : Int32) (a4 : Int32) (σ : xSt), d7_sumOf_L11 a1 a3 K Q n a2 a4 σ → (∀ (a2 : Int32) (s : xSt), K a2 s → KK ad E (qI Q) 36 ([(0, .ref (ad 13 0 0)), (1, .int a1), (2, .int a2), (3, .int a3)]) [] s) → KK ad E (qI Q) 11 ([(0, .ref (ad 13 0 0)), (1, .int a1), (2, .int a2), (3, .int a3), (4, .int a4)]) [] σ := by
  intro n
  induction n with
  | zero => intro a2 a4 σ h kk; exact h.elim
  | succ n ih =>
    intro a2 a4 σ h kk
    rw [d7_sumOf_L11] at h
    refine r_iload X (x_dr DX7_sumOf 8 rfl) 4 rfl ?_
    refine r_aload_n X (x_dr DX7_sumOf 9 rfl) 0 rfl rfl ?_
    refine gf_7_134 X rfl (x_dr DX7_sumOf 10 rfl) ?_
    refine r_icmp_ge X 36 (x_dr DX7_sumOf 11 rfl) (by decide) (fun c2 => ?_) (fun c2 => ?_)
    · replace h := h.1 c2
      refine r_norm X [0, 1, 2, 3] ([(0, .ref (ad 13 0 0)), (1, .int a1), (2, .int a2), (3, .int a3)]) rfl ?_
      exact kk _ _ h
    · replace h := h.2 c2
      refine r_iload_n X (x_dr DX7_sumOf 12 rfl) 2 rfl rfl ?_
      refine r_aload_n X (x_dr DX7_sumOf 13 rfl) 0 rfl rfl ?_
      refine gf_7_58 X rfl (x_dr DX7_sumOf 14 rfl) ?_
      refine r_iload X (x_dr DX7_sumOf 15 rfl) 4 rfl ?_
      obtain ⟨b3, h⟩ := h
      refine r_iald X rfl rfl b3 (x_dr DX7_sumOf 16 rfl) ?_
      refine r_iadd X (x_dr DX7_sumOf 17 rfl) ?_
      refine r_nmI (fun v4 ev4 => ?_)
      replace h := h v4 ev4
      refine r_istore_n X ([(2, .int v4), (0, .ref (ad 13 0 0)), (1, .int a1), (3, .int a3), (4, .int a4)]) (x_dr DX7_sumOf 18 rfl) rfl (by decide) rfl ?_
      obtain ⟨v5, ev5⟩ : ∃ z : Int32, z = a4 + 1 := ⟨_, rfl⟩
      replace h := h v5 ev5
      refine r_iinc (v := v5) X ([(4, .int v5), (2, .int v4), (0, .ref (ad 13 0 0)), (1, .int a1), (3, .int a3)]) 4 (x_dr DX7_sumOf 19 rfl) rfl (by rw [ev5]; rfl) (by decide) rfl ?_
      refine r_goto X 11 (x_dr DX7_sumOf 20 rfl) (by decide) ?_
      refine r_norm X [2, 3, 1, 4, 0] ([(0, .ref (ad 13 0 0)), (1, .int a1), (2, .int v4), (3, .int a3), (4, .int v5)]) rfl ?_
      exact ih _ _ _ h kk
set_option maxRecDepth 10000 in
theorem w7_sumOf_L39 {ad : xAd} {E : xE} (X : FX ad E cX7_sumOf 5 RX7 (some .int) 8 175)   {a1 : Int32} {a2 : Int32} {K : Int32 → xSt → Prop} {Q : Int32 → xSt → Prop} : ∀ (n : Nat) (a3 : Int32) (a4 : Int32) (σ : xSt), d7_sumOf_L39 a1 a2 K Q n a3 a4 σ → (∀ (a3 : Int32) (s : xSt), K a3 s → KK ad E (qI Q) 62 ([(0, .ref (ad 13 0 0)), (1, .int a1), (2, .int a2), (3, .int a3)]) [] s) → KK ad E (qI Q) 39 ([(0, .ref (ad 13 0 0)), (1, .int a1), (2, .int a2), (3, .int a3), (4, .int a4)]) [] σ := by
  intro n
  induction n with
  | zero => intro a3 a4 σ h kk; exact h.elim
  | succ n ih =>
    intro a3 a4 σ h kk
    rw [d7_sumOf_L39] at h
    refine r_iload X (x_dr DX7_sumOf 23 rfl) 4 rfl ?_
    refine r_bipush (v := 20) X (x_dr DX7_sumOf 24 rfl) (by decide) ?_
    refine r_icmp_ge X 62 (x_dr DX7_sumOf 25 rfl) (by decide) (fun c8 => ?_) (fun c8 => ?_)
    · replace h := h.1 c8
      refine r_norm X [0, 1, 2, 3] ([(0, .ref (ad 13 0 0)), (1, .int a1), (2, .int a2), (3, .int a3)]) rfl ?_
      exact kk _ _ h
    · replace h := h.2 c8
      refine r_iload_n X (x_dr DX7_sumOf 26 rfl) 3 rfl rfl ?_
      refine r_aload_n X (x_dr DX7_sumOf 27 rfl) 0 rfl rfl ?_
      refine gf_7_76 X rfl (x_dr DX7_sumOf 28 rfl) ?_
      refine r_iload X (x_dr DX7_sumOf 29 rfl) 4 rfl ?_
      obtain ⟨b9, h⟩ := h
      refine r_iald X rfl rfl b9 (x_dr DX7_sumOf 30 rfl) ?_
      refine r_iadd X (x_dr DX7_sumOf 31 rfl) ?_
      refine r_nmI (fun v10 ev10 => ?_)
      replace h := h v10 ev10
      refine r_istore_n X ([(3, .int v10), (0, .ref (ad 13 0 0)), (1, .int a1), (2, .int a2), (4, .int a4)]) (x_dr DX7_sumOf 32 rfl) rfl (by decide) rfl ?_
      obtain ⟨v11, ev11⟩ : ∃ z : Int32, z = a4 + 1 := ⟨_, rfl⟩
      replace h := h v11 ev11
      refine r_iinc (v := v11) X ([(4, .int v11), (3, .int v10), (0, .ref (ad 13 0 0)), (1, .int a1), (2, .int a2)]) 4 (x_dr DX7_sumOf 33 rfl) rfl (by rw [ev11]; rfl) (by decide) rfl ?_
      refine r_goto X 39 (x_dr DX7_sumOf 34 rfl) (by decide) ?_
      refine r_norm X [2, 3, 4, 1, 0] ([(0, .ref (ad 13 0 0)), (1, .int a1), (2, .int a2), (3, .int v10), (4, .int v11)]) rfl ?_
      exact ih _ _ _ h kk
set_option maxRecDepth 10000 in
theorem k7_sumOf {ad : xAd} {G : xG} {l : Launch} {a1 : Int32} {σ : xSt} {Q : Int32 → xSt → Prop}  (h : d7_sumOf a1 σ Q) : MC ad G l yX7_sumOf cX7_sumOf 5 (some .int) 8 175 [.ref (ad 13 0 0), .int a1] σ (qI Q) := by
  unfold d7_sumOf at h
  refine x_MC [(0, .ref (ad 13 0 0)), (1, .int a1)] (by decide +kernel) rfl (Nat.le_of_ble_eq_true rfl) ?_
  intro E hG hl X
  replace X : FX ad E cX7_sumOf 5 RX7 (some .int) 8 175 := X
  refine r_aload_n X (x_dr DX7_sumOf 0 rfl) 0 rfl rfl ?_
  refine cl7_runsTold X (k7_runsTold h) rfl ml_7_239 ⟨Nat.le_of_ble_eq_true rfl, Nat.le_of_ble_eq_true rfl⟩ (Nat.le_of_ble_eq_true rfl) (x_dr DX7_sumOf 1 rfl) (fun s1 h => ?_)
  refine r_iconst (v := 0) X (x_dr DX7_sumOf 2 rfl) (by decide) ?_
  refine r_istore_n X ([(2, .int 0), (0, .ref (ad 13 0 0)), (1, .int a1)]) (x_dr DX7_sumOf 3 rfl) rfl (by decide) rfl ?_
  refine r_iconst (v := 0) X (x_dr DX7_sumOf 4 rfl) (by decide) ?_
  refine r_istore_n X ([(3, .int 0), (2, .int 0), (0, .ref (ad 13 0 0)), (1, .int a1)]) (x_dr DX7_sumOf 5 rfl) rfl (by decide) rfl ?_
  refine r_iconst (v := 0) X (x_dr DX7_sumOf 6 rfl) (by decide) ?_
  refine r_istore X ([(4, .int 0), (3, .int 0), (2, .int 0), (0, .ref (ad 13 0 0)), (1, .int a1)]) (x_dr DX7_sumOf 7 rfl) (by decide) rfl ?_
  refine r_norm X [3, 4, 2, 1, 0] ([(0, .ref (ad 13 0 0)), (1, .int a1), (2, .int 0), (3, .int 0), (4, .int 0)]) rfl ?_
  refine w7_sumOf_L11 X  _ _ _ _ h (fun v7 s6 h => ?_)
  refine r_iconst (v := 0) X (x_dr DX7_sumOf 21 rfl) (by decide) ?_
  refine r_istore X ([(4, .int 0), (0, .ref (ad 13 0 0)), (1, .int a1), (2, .int v7), (3, .int 0)]) (x_dr DX7_sumOf 22 rfl) (by decide) rfl ?_
  refine r_norm X [1, 2, 3, 4, 0] ([(0, .ref (ad 13 0 0)), (1, .int a1), (2, .int v7), (3, .int 0), (4, .int 0)]) rfl ?_
  refine w7_sumOf_L39 X  _ _ _ _ h (fun v13 s12 h => ?_)
  refine r_iload_n X (x_dr DX7_sumOf 35 rfl) 1 rfl rfl ?_
  refine r_if_ne X 73 (x_dr DX7_sumOf 36 rfl) (by decide) (fun c14 => ?_) (fun c14 => ?_)
  · replace h := h.1 c14
    refine r_iload_n X (x_dr DX7_sumOf 40 rfl) 1 rfl rfl ?_
    refine r_iconst (v := 4) X (x_dr DX7_sumOf 41 rfl) (by decide) ?_
    refine r_icmp_ne X 82 (x_dr DX7_sumOf 42 rfl) (by decide) (fun c15 => ?_) (fun c15 => ?_)
    · replace h := h.1 c15
      refine r_iload_n X (x_dr DX7_sumOf 45 rfl) 1 rfl rfl ?_
      refine r_iconst (v := 5) X (x_dr DX7_sumOf 46 rfl) (by decide) ?_
      refine r_icmp_ne X 91 (x_dr DX7_sumOf 47 rfl) (by decide) (fun c16 => ?_) (fun c16 => ?_)
      · replace h := h.1 c16
        refine r_aload_n X (x_dr DX7_sumOf 50 rfl) 0 rfl rfl ?_
        refine gf_7_123 X rfl (x_dr DX7_sumOf 51 rfl) ?_
        exact r_iret X rfl (x_dr DX7_sumOf 52 rfl) ⟨_, rfl, h⟩
      · replace h := h.2 c16
        refine r_iload_n X (x_dr DX7_sumOf 48 rfl) 3 rfl rfl ?_
        refine r_goto X 95 (x_dr DX7_sumOf 49 rfl) (by decide) ?_
        exact r_iret X rfl (x_dr DX7_sumOf 52 rfl) ⟨_, rfl, h⟩
    · replace h := h.2 c15
      refine r_iload_n X (x_dr DX7_sumOf 43 rfl) 2 rfl rfl ?_
      refine r_goto X 95 (x_dr DX7_sumOf 44 rfl) (by decide) ?_
      exact r_iret X rfl (x_dr DX7_sumOf 52 rfl) ⟨_, rfl, h⟩
  · replace h := h.2 c14
    refine r_aload_n X (x_dr DX7_sumOf 37 rfl) 0 rfl rfl ?_
    refine gf_7_134 X rfl (x_dr DX7_sumOf 38 rfl) ?_
    refine r_goto X 95 (x_dr DX7_sumOf 39 rfl) (by decide) ?_
    exact r_iret X rfl (x_dr DX7_sumOf 52 rfl) ⟨_, rfl, h⟩
set_option maxRecDepth 10000 in
theorem k7_count {ad : xAd} {G : xG} {l : Launch} {a1 : Int32} {σ : xSt} {Q : Int32 → xSt → Prop}  (h : d7_count a1 σ Q) : MC ad G l yX7_count cX7_count 2 (some .int) 9 199 [.ref (ad 13 0 0), .int a1] σ (qI Q) := by
  unfold d7_count at h
  refine x_MC [(0, .ref (ad 13 0 0)), (1, .int a1)] (by decide +kernel) rfl (Nat.le_of_ble_eq_true rfl) ?_
  intro E hG hl X
  replace X : FX ad E cX7_count 2 RX7 (some .int) 9 199 := X
  refine r_iload_n X (x_dr DX7_count 0 rfl) 1 rfl rfl ?_
  by_cases c1 : a1 = 0
  · replace h := h.1 c1
    refine r_tabIn X (off := 51) 52 (x_dr DX7_count 1 rfl) (by rw [c1]; decide) (by rw [c1]; decide) (by rw [c1]; rfl) (by decide) ?_
    refine r_aload_n X (x_dr DX7_count 2 rfl) 0 rfl rfl ?_
    refine r_iload_n X (x_dr DX7_count 3 rfl) 1 rfl rfl ?_
    refine cl7_sumOf X (k7_sumOf h) rfl ml_7_342 ⟨Nat.le_of_ble_eq_true rfl, Nat.le_of_ble_eq_true rfl⟩ (Nat.le_of_ble_eq_true rfl) (x_dr DX7_count 4 rfl) (fun v3 s2 h => ?_)
    exact r_iret X rfl (x_dr DX7_count 5 rfl) ⟨_, rfl, h⟩
  · replace h := h.2 c1
    by_cases c4 : a1 = 1
    · replace h := h.1 c4
      refine r_tabIn X (off := 57) 58 (x_dr DX7_count 1 rfl) (by rw [c4]; decide) (by rw [c4]; decide) (by rw [c4]; rfl) (by decide) ?_
      refine r_aload_n X (x_dr DX7_count 6 rfl) 0 rfl rfl ?_
      refine gf_7_169 X rfl (x_dr DX7_count 7 rfl) ?_
      exact r_iret X rfl (x_dr DX7_count 8 rfl) ⟨_, rfl, h⟩
    · replace h := h.2 c4
      by_cases c5 : a1 = 2
      · replace h := h.1 c5
        refine r_tabIn X (off := 62) 63 (x_dr DX7_count 1 rfl) (by rw [c5]; decide) (by rw [c5]; decide) (by rw [c5]; rfl) (by decide) ?_
        refine r_aload_n X (x_dr DX7_count 9 rfl) 0 rfl rfl ?_
        refine gf_7_7 X rfl (x_dr DX7_count 10 rfl) ?_
        refine r_iload_n X (x_dr DX7_count 11 rfl) 1 rfl rfl ?_
        refine r_iconst (v := 2) X (x_dr DX7_count 12 rfl) (by decide) ?_
        refine r_isub X (x_dr DX7_count 13 rfl) ?_
        obtain ⟨b6, h⟩ := h
        refine r_iald X rfl rfl b6 (x_dr DX7_count 14 rfl) ?_
        exact r_iret X rfl (x_dr DX7_count 15 rfl) ⟨_, rfl, h⟩
      · replace h := h.2 c5
        by_cases c7 : a1 = 3
        · replace h := h.1 c7
          refine r_tabIn X (off := 62) 63 (x_dr DX7_count 1 rfl) (by rw [c7]; decide) (by rw [c7]; decide) (by rw [c7]; rfl) (by decide) ?_
          refine r_aload_n X (x_dr DX7_count 9 rfl) 0 rfl rfl ?_
          refine gf_7_7 X rfl (x_dr DX7_count 10 rfl) ?_
          refine r_iload_n X (x_dr DX7_count 11 rfl) 1 rfl rfl ?_
          refine r_iconst (v := 2) X (x_dr DX7_count 12 rfl) (by decide) ?_
          refine r_isub X (x_dr DX7_count 13 rfl) ?_
          obtain ⟨b8, h⟩ := h
          refine r_iald X rfl rfl b8 (x_dr DX7_count 14 rfl) ?_
          exact r_iret X rfl (x_dr DX7_count 15 rfl) ⟨_, rfl, h⟩
        · replace h := h.2 c7
          by_cases c9 : a1 = 4
          · replace h := h.1 c9
            refine r_tabIn X (off := 51) 52 (x_dr DX7_count 1 rfl) (by rw [c9]; decide) (by rw [c9]; decide) (by rw [c9]; rfl) (by decide) ?_
            refine r_aload_n X (x_dr DX7_count 2 rfl) 0 rfl rfl ?_
            refine r_iload_n X (x_dr DX7_count 3 rfl) 1 rfl rfl ?_
            refine cl7_sumOf X (k7_sumOf h) rfl ml_7_342 ⟨Nat.le_of_ble_eq_true rfl, Nat.le_of_ble_eq_true rfl⟩ (Nat.le_of_ble_eq_true rfl) (x_dr DX7_count 4 rfl) (fun v11 s10 h => ?_)
            exact r_iret X rfl (x_dr DX7_count 5 rfl) ⟨_, rfl, h⟩
          · replace h := h.2 c9
            by_cases c12 : a1 = 5
            · replace h := h.1 c12
              refine r_tabIn X (off := 51) 52 (x_dr DX7_count 1 rfl) (by rw [c12]; decide) (by rw [c12]; decide) (by rw [c12]; rfl) (by decide) ?_
              refine r_aload_n X (x_dr DX7_count 2 rfl) 0 rfl rfl ?_
              refine r_iload_n X (x_dr DX7_count 3 rfl) 1 rfl rfl ?_
              refine cl7_sumOf X (k7_sumOf h) rfl ml_7_342 ⟨Nat.le_of_ble_eq_true rfl, Nat.le_of_ble_eq_true rfl⟩ (Nat.le_of_ble_eq_true rfl) (x_dr DX7_count 4 rfl) (fun v14 s13 h => ?_)
              exact r_iret X rfl (x_dr DX7_count 5 rfl) ⟨_, rfl, h⟩
            · replace h := h.2 c12
              by_cases c15 : a1 = 6
              · replace h := h.1 c15
                refine r_tabIn X (off := 51) 52 (x_dr DX7_count 1 rfl) (by rw [c15]; decide) (by rw [c15]; decide) (by rw [c15]; rfl) (by decide) ?_
                refine r_aload_n X (x_dr DX7_count 2 rfl) 0 rfl rfl ?_
                refine r_iload_n X (x_dr DX7_count 3 rfl) 1 rfl rfl ?_
                refine cl7_sumOf X (k7_sumOf h) rfl ml_7_342 ⟨Nat.le_of_ble_eq_true rfl, Nat.le_of_ble_eq_true rfl⟩ (Nat.le_of_ble_eq_true rfl) (x_dr DX7_count 4 rfl) (fun v17 s16 h => ?_)
                exact r_iret X rfl (x_dr DX7_count 5 rfl) ⟨_, rfl, h⟩
              · replace h := h.2 c15
                by_cases c18 : a1 = 7
                · replace h := h.1 c18
                  refine r_tabIn X (off := 71) 72 (x_dr DX7_count 1 rfl) (by rw [c18]; decide) (by rw [c18]; decide) (by rw [c18]; rfl) (by decide) ?_
                  refine r_aload_n X (x_dr DX7_count 16 rfl) 0 rfl rfl ?_
                  refine gf_7_297 X rfl (x_dr DX7_count 17 rfl) ?_
                  exact r_iret X rfl (x_dr DX7_count 18 rfl) ⟨_, rfl, h⟩
                · replace h := h.2 c18
                  by_cases c19 : a1 = 8
                  · replace h := h.1 c19
                    refine r_tabIn X (off := 76) 77 (x_dr DX7_count 1 rfl) (by rw [c19]; decide) (by rw [c19]; decide) (by rw [c19]; rfl) (by decide) ?_
                    refine r_aload_n X (x_dr DX7_count 19 rfl) 0 rfl rfl ?_
                    refine gf_7_332 X rfl (x_dr DX7_count 20 rfl) ?_
                    exact r_iret X rfl (x_dr DX7_count 21 rfl) ⟨_, rfl, h⟩
                  · replace h := h.2 c19
                    refine r_tabOut X 82 (x_dr DX7_count 1 rfl) (x_tab0_8 c1 c4 c5 c7 c9 c12 c15 c18 c19) (by decide) ?_
                    refine r_bipush (v := (-2)) X (x_dr DX7_count 22 rfl) (by decide) ?_
                    exact r_iret X rfl (x_dr DX7_count 23 rfl) ⟨_, rfl, h⟩
set_option maxRecDepth 10000 in
theorem k7_placeDigest {ad : xAd} {G : xG} {l : Launch} {a1 : Int64} {a3 : Int32} {σ : xSt} {Q : Int64 → xSt → Prop}  (h : d7_placeDigest a1 a3 σ Q) : MC ad G l yX7_placeDigest cX7_placeDigest 6 (some .long) 10 231 [.ref (ad 13 0 0), .long a1, .int a3] σ (qL Q) := by
  unfold d7_placeDigest at h
  refine x_MC [(0, .ref (ad 13 0 0)), (1, .long a1), (3, .int a3)] (by decide +kernel) rfl (Nat.le_of_ble_eq_true rfl) ?_
  intro E hG hl X
  replace X : FX ad E cX7_placeDigest 6 RX7 (some .long) 10 231 := X
  refine r_ldc2 X mkl_7_345 (x_dr DX7_placeDigest 0 rfl) ?_
  refine r_lload_n X (x_dr DX7_placeDigest 1 rfl) 1 rfl rfl ?_
  refine r_lmul X (x_dr DX7_placeDigest 2 rfl) ?_
  refine r_aload_n X (x_dr DX7_placeDigest 3 rfl) 0 rfl rfl ?_
  refine r_iload_n X (x_dr DX7_placeDigest 4 rfl) 2 rfl rfl ?_
  refine cl7_stoneOf X (k7_stoneOf h) rfl ml_7_157 ⟨Nat.le_of_ble_eq_true rfl, Nat.le_of_ble_eq_true rfl⟩ (Nat.le_of_ble_eq_true rfl) (x_dr DX7_placeDigest 5 rfl) (fun v2 s1 h => ?_)
  refine r_i2l X (x_dr DX7_placeDigest 6 rfl) ?_
  refine r_ladd X (x_dr DX7_placeDigest 7 rfl) ?_
  refine r_nmJ (fun v3 ev3 => ?_)
  replace h := h v3 ev3
  refine r_lstore X ([(4, .long v3), (0, .ref (ad 13 0 0)), (1, .long a1), (3, .int a3)]) (x_dr DX7_placeDigest 8 rfl) (by decide) rfl ?_
  refine r_ldc2 X mkl_7_345 (x_dr DX7_placeDigest 9 rfl) ?_
  refine r_lload X (x_dr DX7_placeDigest 10 rfl) 0 rfl ?_
  refine r_lmul X (x_dr DX7_placeDigest 11 rfl) ?_
  refine r_aload_n X (x_dr DX7_placeDigest 12 rfl) 1 rfl rfl ?_
  refine r_bipush (v := 6) X (x_dr DX7_placeDigest 13 rfl) (by decide) ?_
  refine r_iload_n X (x_dr DX7_placeDigest 14 rfl) 3 rfl rfl ?_
  refine r_iconst (v := 0) X (x_dr DX7_placeDigest 15 rfl) (by decide) ?_
  refine cl7_dampOf X (k7_dampOf h) rfl ml_7_242 ⟨Nat.le_of_ble_eq_true rfl, Nat.le_of_ble_eq_true rfl⟩ (Nat.le_of_ble_eq_true rfl) (x_dr DX7_placeDigest 16 rfl) (fun v5 s4 h => ?_)
  refine r_i2l X (x_dr DX7_placeDigest 17 rfl) ?_
  refine r_ladd X (x_dr DX7_placeDigest 18 rfl) ?_
  refine r_nmJ (fun v6 ev6 => ?_)
  replace h := h v6 ev6
  refine r_lstore X ([(4, .long v6), (0, .ref (ad 13 0 0)), (1, .long a1), (3, .int a3)]) (x_dr DX7_placeDigest 19 rfl) (by decide) rfl ?_
  refine r_ldc2 X mkl_7_345 (x_dr DX7_placeDigest 20 rfl) ?_
  refine r_lload X (x_dr DX7_placeDigest 21 rfl) 0 rfl ?_
  refine r_lmul X (x_dr DX7_placeDigest 22 rfl) ?_
  refine r_aload_n X (x_dr DX7_placeDigest 23 rfl) 1 rfl rfl ?_
  refine r_bipush (v := 6) X (x_dr DX7_placeDigest 24 rfl) (by decide) ?_
  refine r_iload_n X (x_dr DX7_placeDigest 25 rfl) 3 rfl rfl ?_
  refine r_iconst (v := 1) X (x_dr DX7_placeDigest 26 rfl) (by decide) ?_
  refine cl7_dampOf X (k7_dampOf h) rfl ml_7_242 ⟨Nat.le_of_ble_eq_true rfl, Nat.le_of_ble_eq_true rfl⟩ (Nat.le_of_ble_eq_true rfl) (x_dr DX7_placeDigest 27 rfl) (fun v8 s7 h => ?_)
  refine r_i2l X (x_dr DX7_placeDigest 28 rfl) ?_
  refine r_ladd X (x_dr DX7_placeDigest 29 rfl) ?_
  refine r_nmJ (fun v9 ev9 => ?_)
  replace h := h v9 ev9
  refine r_lstore X ([(4, .long v9), (0, .ref (ad 13 0 0)), (1, .long a1), (3, .int a3)]) (x_dr DX7_placeDigest 30 rfl) (by decide) rfl ?_
  refine r_ldc2 X mkl_7_345 (x_dr DX7_placeDigest 31 rfl) ?_
  refine r_lload X (x_dr DX7_placeDigest 32 rfl) 0 rfl ?_
  refine r_lmul X (x_dr DX7_placeDigest 33 rfl) ?_
  refine r_aload_n X (x_dr DX7_placeDigest 34 rfl) 1 rfl rfl ?_
  refine r_bipush (v := 19) X (x_dr DX7_placeDigest 35 rfl) (by decide) ?_
  refine r_iload_n X (x_dr DX7_placeDigest 36 rfl) 3 rfl rfl ?_
  refine r_iconst (v := 0) X (x_dr DX7_placeDigest 37 rfl) (by decide) ?_
  refine cl7_dampOf X (k7_dampOf h) rfl ml_7_242 ⟨Nat.le_of_ble_eq_true rfl, Nat.le_of_ble_eq_true rfl⟩ (Nat.le_of_ble_eq_true rfl) (x_dr DX7_placeDigest 38 rfl) (fun v11 s10 h => ?_)
  refine r_i2l X (x_dr DX7_placeDigest 39 rfl) ?_
  refine r_ladd X (x_dr DX7_placeDigest 40 rfl) ?_
  refine r_nmJ (fun v12 ev12 => ?_)
  replace h := h v12 ev12
  refine r_lstore X ([(4, .long v12), (0, .ref (ad 13 0 0)), (1, .long a1), (3, .int a3)]) (x_dr DX7_placeDigest 41 rfl) (by decide) rfl ?_
  refine r_ldc2 X mkl_7_345 (x_dr DX7_placeDigest 42 rfl) ?_
  refine r_lload X (x_dr DX7_placeDigest 43 rfl) 0 rfl ?_
  refine r_lmul X (x_dr DX7_placeDigest 44 rfl) ?_
  refine r_aload_n X (x_dr DX7_placeDigest 45 rfl) 1 rfl rfl ?_
  refine r_bipush (v := 19) X (x_dr DX7_placeDigest 46 rfl) (by decide) ?_
  refine r_iload_n X (x_dr DX7_placeDigest 47 rfl) 3 rfl rfl ?_
  refine r_iconst (v := 1) X (x_dr DX7_placeDigest 48 rfl) (by decide) ?_
  refine cl7_dampOf X (k7_dampOf h) rfl ml_7_242 ⟨Nat.le_of_ble_eq_true rfl, Nat.le_of_ble_eq_true rfl⟩ (Nat.le_of_ble_eq_true rfl) (x_dr DX7_placeDigest 49 rfl) (fun v14 s13 h => ?_)
  refine r_i2l X (x_dr DX7_placeDigest 50 rfl) ?_
  refine r_ladd X (x_dr DX7_placeDigest 51 rfl) ?_
  refine r_nmJ (fun v15 ev15 => ?_)
  replace h := h v15 ev15
  refine r_lstore X ([(4, .long v15), (0, .ref (ad 13 0 0)), (1, .long a1), (3, .int a3)]) (x_dr DX7_placeDigest 52 rfl) (by decide) rfl ?_
  refine r_ldc2 X mkl_7_345 (x_dr DX7_placeDigest 53 rfl) ?_
  refine r_lload X (x_dr DX7_placeDigest 54 rfl) 0 rfl ?_
  refine r_lmul X (x_dr DX7_placeDigest 55 rfl) ?_
  refine r_aload_n X (x_dr DX7_placeDigest 56 rfl) 1 rfl rfl ?_
  refine r_iload_n X (x_dr DX7_placeDigest 57 rfl) 3 rfl rfl ?_
  refine cl7_wetBy X (k7_wetBy h) rfl ml_7_310 ⟨Nat.le_of_ble_eq_true rfl, Nat.le_of_ble_eq_true rfl⟩ (Nat.le_of_ble_eq_true rfl) (x_dr DX7_placeDigest 58 rfl) (fun v17 s16 h => ?_)
  refine r_i2l X (x_dr DX7_placeDigest 59 rfl) ?_
  refine r_ladd X (x_dr DX7_placeDigest 60 rfl) ?_
  refine r_nmJ (fun v18 ev18 => ?_)
  replace h := h v18 ev18
  refine r_lstore X ([(4, .long v18), (0, .ref (ad 13 0 0)), (1, .long a1), (3, .int a3)]) (x_dr DX7_placeDigest 61 rfl) (by decide) rfl ?_
  refine r_ldc2 X mkl_7_345 (x_dr DX7_placeDigest 62 rfl) ?_
  refine r_lload X (x_dr DX7_placeDigest 63 rfl) 0 rfl ?_
  refine r_lmul X (x_dr DX7_placeDigest 64 rfl) ?_
  refine r_aload_n X (x_dr DX7_placeDigest 65 rfl) 1 rfl rfl ?_
  refine r_iload_n X (x_dr DX7_placeDigest 66 rfl) 3 rfl rfl ?_
  refine cl7_askOf X (k7_askOf h) rfl ml_7_313 ⟨Nat.le_of_ble_eq_true rfl, Nat.le_of_ble_eq_true rfl⟩ (Nat.le_of_ble_eq_true rfl) (x_dr DX7_placeDigest 67 rfl) (fun v20 s19 h => ?_)
  refine r_i2l X (x_dr DX7_placeDigest 68 rfl) ?_
  refine r_ladd X (x_dr DX7_placeDigest 69 rfl) ?_
  exact r_lret X rfl (x_dr DX7_placeDigest 70 rfl) ⟨_, rfl, h⟩
set_option maxRecDepth 10000 in
theorem w7_hourDigest_L6 {ad : xAd} {E : xE} (X : FX ad E cX7_hourDigest 8 RX7 (some .long) 9 199)   {a3 : Int32} {a4 : Int32} {K : Int64 → xSt → Prop} {Q : Int64 → xSt → Prop} : ∀ (n : Nat) (a5 : Int64) (a7 : Int32) (σ : xSt), d7_hourDigest_L6 a3 a4 K Q n a5 a7 σ → (∀ (a5 : Int64) (s : xSt), K a5 s → KK ad E (qL Q) 37 ([(5, .long a5)]) [] s) → KK ad E (qL Q) 6 ([(0, .ref (ad 13 0 0)), (3, .int a3), (4, .int a4), (5, .long a5), (7, .int a7)]) [] σ := by
  intro n
  induction n with
  | zero => intro a5 a7 σ h kk; exact h.elim
  | succ n ih =>
    intro a5 a7 σ h kk
    rw [d7_hourDigest_L6] at h
    refine r_iload X (x_dr DX7_hourDigest 4 rfl) 4 rfl ?_
    refine r_iconst (v := 4) X (x_dr DX7_hourDigest 5 rfl) (by decide) ?_
    refine r_icmp_ge X 37 (x_dr DX7_hourDigest 6 rfl) (by decide) (fun c1 => ?_) (fun c1 => ?_)
    · replace h := h.1 c1
      refine r_norm X [3] ([(5, .long a5)]) rfl ?_
      exact kk _ _ h
    · replace h := h.2 c1
      refine r_ldc2 X mkl_7_345 (x_dr DX7_hourDigest 7 rfl) ?_
      refine r_lload X (x_dr DX7_hourDigest 8 rfl) 3 rfl ?_
      refine r_lmul X (x_dr DX7_hourDigest 9 rfl) ?_
      refine r_aload_n X (x_dr DX7_hourDigest 10 rfl) 0 rfl rfl ?_
      refine r_iload_n X (x_dr DX7_hourDigest 11 rfl) 1 rfl rfl ?_
      refine r_iload X (x_dr DX7_hourDigest 12 rfl) 2 rfl ?_
      refine r_iload X (x_dr DX7_hourDigest 13 rfl) 4 rfl ?_
      refine cl7_atOf X (k7_atOf h) rfl ml_7_245 ⟨Nat.le_of_ble_eq_true rfl, Nat.le_of_ble_eq_true rfl⟩ (Nat.le_of_ble_eq_true rfl) (x_dr DX7_hourDigest 14 rfl) (fun v3 s2 h => ?_)
      refine r_i2l X (x_dr DX7_hourDigest 15 rfl) ?_
      refine r_ladd X (x_dr DX7_hourDigest 16 rfl) ?_
      refine r_nmJ (fun v4 ev4 => ?_)
      replace h := h v4 ev4
      refine r_lstore X ([(5, .long v4), (0, .ref (ad 13 0 0)), (3, .int a3), (4, .int a4), (7, .int a7)]) (x_dr DX7_hourDigest 17 rfl) (by decide) rfl ?_
      obtain ⟨v5, ev5⟩ : ∃ z : Int32, z = a7 + 1 := ⟨_, rfl⟩
      replace h := h v5 ev5
      refine r_iinc (v := v5) X ([(7, .int v5), (5, .long v4), (0, .ref (ad 13 0 0)), (3, .int a3), (4, .int a4)]) 4 (x_dr DX7_hourDigest 18 rfl) rfl (by rw [ev5]; rfl) (by decide) rfl ?_
      refine r_goto X 6 (x_dr DX7_hourDigest 19 rfl) (by decide) ?_
      refine r_norm X [2, 3, 4, 1, 0] ([(0, .ref (ad 13 0 0)), (3, .int a3), (4, .int a4), (5, .long v4), (7, .int v5)]) rfl ?_
      exact ih _ _ _ h kk
set_option maxRecDepth 10000 in
theorem k7_hourDigest {ad : xAd} {G : xG} {l : Launch} {a1 : Int64} {a3 : Int32} {a4 : Int32} {σ : xSt} {Q : Int64 → xSt → Prop}  (h : d7_hourDigest a1 a3 a4 σ Q) : MC ad G l yX7_hourDigest cX7_hourDigest 8 (some .long) 9 199 [.ref (ad 13 0 0), .long a1, .int a3, .int a4] σ (qL Q) := by
  unfold d7_hourDigest at h
  refine x_MC [(0, .ref (ad 13 0 0)), (1, .long a1), (3, .int a3), (4, .int a4)] (by decide +kernel) rfl (Nat.le_of_ble_eq_true rfl) ?_
  intro E hG hl X
  replace X : FX ad E cX7_hourDigest 8 RX7 (some .long) 9 199 := X
  refine r_lload_n X (x_dr DX7_hourDigest 0 rfl) 1 rfl rfl ?_
  refine r_lstore X ([(5, .long a1), (0, .ref (ad 13 0 0)), (1, .long a1), (3, .int a3), (4, .int a4)]) (x_dr DX7_hourDigest 1 rfl) (by decide) rfl ?_
  refine r_iconst (v := 0) X (x_dr DX7_hourDigest 2 rfl) (by decide) ?_
  refine r_istore X ([(7, .int 0), (5, .long a1), (0, .ref (ad 13 0 0)), (1, .long a1), (3, .int a3), (4, .int a4)]) (x_dr DX7_hourDigest 3 rfl) (by decide) rfl ?_
  refine r_norm X [2, 4, 5, 1, 0] ([(0, .ref (ad 13 0 0)), (3, .int a3), (4, .int a4), (5, .long a1), (7, .int 0)]) rfl ?_
  refine w7_hourDigest_L6 X  _ _ _ _ h (fun v7 s6 h => ?_)
  refine r_lload X (x_dr DX7_hourDigest 20 rfl) 0 rfl ?_
  exact r_lret X rfl (x_dr DX7_hourDigest 21 rfl) ⟨_, rfl, h⟩
set_option maxRecDepth 10000 in
theorem w7_memberDigest_L6 {ad : xAd} {E : xE} (X : FX ad E cX7_memberDigest 7 RX7 (some .long) 10 226)   {a3 : Int32} {K : Int64 → xSt → Prop} {Q : Int64 → xSt → Prop} : ∀ (n : Nat) (a4 : Int64) (a6 : Int32) (σ : xSt), d7_memberDigest_L6 a3 K Q n a4 a6 σ → (∀ (a4 : Int64) (s : xSt), K a4 s → KK ad E (qL Q) 35 ([(0, .ref (ad 13 0 0)), (3, .int a3), (4, .long a4)]) [] s) → KK ad E (qL Q) 6 ([(0, .ref (ad 13 0 0)), (3, .int a3), (4, .long a4), (6, .int a6)]) [] σ := by
  intro n
  induction n with
  | zero => intro a4 a6 σ h kk; exact h.elim
  | succ n ih =>
    intro a4 a6 σ h kk
    rw [d7_memberDigest_L6] at h
    refine r_iload X (x_dr DX7_memberDigest 4 rfl) 3 rfl ?_
    refine r_iconst (v := 3) X (x_dr DX7_memberDigest 5 rfl) (by decide) ?_
    refine r_icmp_ge X 35 (x_dr DX7_memberDigest 6 rfl) (by decide) (fun c1 => ?_) (fun c1 => ?_)
    · replace h := h.1 c1
      refine r_norm X [0, 1, 2] ([(0, .ref (ad 13 0 0)), (3, .int a3), (4, .long a4)]) rfl ?_
      exact kk _ _ h
    · replace h := h.2 c1
      refine r_ldc2 X mkl_7_345 (x_dr DX7_memberDigest 7 rfl) ?_
      refine r_lload X (x_dr DX7_memberDigest 8 rfl) 2 rfl ?_
      refine r_lmul X (x_dr DX7_memberDigest 9 rfl) ?_
      refine r_aload_n X (x_dr DX7_memberDigest 10 rfl) 0 rfl rfl ?_
      refine r_iload_n X (x_dr DX7_memberDigest 11 rfl) 1 rfl rfl ?_
      refine r_iload X (x_dr DX7_memberDigest 12 rfl) 3 rfl ?_
      refine cl7_memberOf X (k7_memberOf h) rfl ml_7_163 ⟨Nat.le_of_ble_eq_true rfl, Nat.le_of_ble_eq_true rfl⟩ (Nat.le_of_ble_eq_true rfl) (x_dr DX7_memberDigest 13 rfl) (fun v3 s2 h => ?_)
      refine r_i2l X (x_dr DX7_memberDigest 14 rfl) ?_
      refine r_ladd X (x_dr DX7_memberDigest 15 rfl) ?_
      refine r_nmJ (fun v4 ev4 => ?_)
      replace h := h v4 ev4
      refine r_lstore X ([(4, .long v4), (0, .ref (ad 13 0 0)), (3, .int a3), (6, .int a6)]) (x_dr DX7_memberDigest 16 rfl) (by decide) rfl ?_
      obtain ⟨v5, ev5⟩ : ∃ z : Int32, z = a6 + 1 := ⟨_, rfl⟩
      replace h := h v5 ev5
      refine r_iinc (v := v5) X ([(6, .int v5), (4, .long v4), (0, .ref (ad 13 0 0)), (3, .int a3)]) 3 (x_dr DX7_memberDigest 17 rfl) rfl (by rw [ev5]; rfl) (by decide) rfl ?_
      refine r_goto X 6 (x_dr DX7_memberDigest 18 rfl) (by decide) ?_
      refine r_norm X [2, 3, 1, 0] ([(0, .ref (ad 13 0 0)), (3, .int a3), (4, .long v4), (6, .int v5)]) rfl ?_
      exact ih _ _ _ h kk
set_option maxRecDepth 10000 in
theorem k7_memberDigest {ad : xAd} {G : xG} {l : Launch} {a1 : Int64} {a3 : Int32} {σ : xSt} {Q : Int64 → xSt → Prop}  (h : d7_memberDigest a1 a3 σ Q) : MC ad G l yX7_memberDigest cX7_memberDigest 7 (some .long) 10 226 [.ref (ad 13 0 0), .long a1, .int a3] σ (qL Q) := by
  unfold d7_memberDigest at h
  refine x_MC [(0, .ref (ad 13 0 0)), (1, .long a1), (3, .int a3)] (by decide +kernel) rfl (Nat.le_of_ble_eq_true rfl) ?_
  intro E hG hl X
  replace X : FX ad E cX7_memberDigest 7 RX7 (some .long) 10 226 := X
  refine r_lload_n X (x_dr DX7_memberDigest 0 rfl) 1 rfl rfl ?_
  refine r_lstore X ([(4, .long a1), (0, .ref (ad 13 0 0)), (1, .long a1), (3, .int a3)]) (x_dr DX7_memberDigest 1 rfl) (by decide) rfl ?_
  refine r_iconst (v := 0) X (x_dr DX7_memberDigest 2 rfl) (by decide) ?_
  refine r_istore X ([(6, .int 0), (4, .long a1), (0, .ref (ad 13 0 0)), (1, .long a1), (3, .int a3)]) (x_dr DX7_memberDigest 3 rfl) (by decide) rfl ?_
  refine r_norm X [2, 4, 1, 0] ([(0, .ref (ad 13 0 0)), (3, .int a3), (4, .long a1), (6, .int 0)]) rfl ?_
  refine w7_memberDigest_L6 X  _ _ _ _ h (fun v7 s6 h => ?_)
  refine r_aload_n X (x_dr DX7_memberDigest 19 rfl) 0 rfl rfl ?_
  refine r_lload X (x_dr DX7_memberDigest 20 rfl) 2 rfl ?_
  refine r_iconst (v := 0) X (x_dr DX7_memberDigest 21 rfl) (by decide) ?_
  refine r_iload_n X (x_dr DX7_memberDigest 22 rfl) 1 rfl rfl ?_
  refine cl7_hourDigest X (k7_hourDigest h) rfl ml_7_347 ⟨Nat.le_of_ble_eq_true rfl, Nat.le_of_ble_eq_true rfl⟩ (Nat.le_of_ble_eq_true rfl) (x_dr DX7_memberDigest 23 rfl) (fun v9 s8 h => ?_)
  refine r_lstore X ([(4, .long v9), (0, .ref (ad 13 0 0)), (3, .int a3)]) (x_dr DX7_memberDigest 24 rfl) (by decide) rfl ?_
  refine r_aload_n X (x_dr DX7_memberDigest 25 rfl) 1 rfl rfl ?_
  refine r_lload X (x_dr DX7_memberDigest 26 rfl) 0 rfl ?_
  refine r_bipush (v := 7) X (x_dr DX7_memberDigest 27 rfl) (by decide) ?_
  refine r_iload_n X (x_dr DX7_memberDigest 28 rfl) 2 rfl rfl ?_
  refine cl7_hourDigest X (k7_hourDigest h) rfl ml_7_347 ⟨Nat.le_of_ble_eq_true rfl, Nat.le_of_ble_eq_true rfl⟩ (Nat.le_of_ble_eq_true rfl) (x_dr DX7_memberDigest 29 rfl) (fun v11 s10 h => ?_)
  refine r_lstore X ([(4, .long v11), (0, .ref (ad 13 0 0)), (3, .int a3)]) (x_dr DX7_memberDigest 30 rfl) (by decide) rfl ?_
  refine r_aload_n X (x_dr DX7_memberDigest 31 rfl) 1 rfl rfl ?_
  refine r_lload X (x_dr DX7_memberDigest 32 rfl) 0 rfl ?_
  refine r_bipush (v := 19) X (x_dr DX7_memberDigest 33 rfl) (by decide) ?_
  refine r_iload_n X (x_dr DX7_memberDigest 34 rfl) 2 rfl rfl ?_
  refine cl7_hourDigest X (k7_hourDigest h) rfl ml_7_347 ⟨Nat.le_of_ble_eq_true rfl, Nat.le_of_ble_eq_true rfl⟩ (Nat.le_of_ble_eq_true rfl) (x_dr DX7_memberDigest 35 rfl) (fun v13 s12 h => ?_)
  refine r_lstore X ([(4, .long v13), (0, .ref (ad 13 0 0)), (3, .int a3)]) (x_dr DX7_memberDigest 36 rfl) (by decide) rfl ?_
  refine r_ldc2 X mkl_7_345 (x_dr DX7_memberDigest 37 rfl) ?_
  refine r_lload X (x_dr DX7_memberDigest 38 rfl) 0 rfl ?_
  refine r_lmul X (x_dr DX7_memberDigest 39 rfl) ?_
  refine r_aload_n X (x_dr DX7_memberDigest 40 rfl) 1 rfl rfl ?_
  refine r_iload_n X (x_dr DX7_memberDigest 41 rfl) 2 rfl rfl ?_
  refine r_iconst (v := 0) X (x_dr DX7_memberDigest 42 rfl) (by decide) ?_
  refine cl7_seatOf X (k7_seatOf h) rfl ml_7_275 ⟨Nat.le_of_ble_eq_true rfl, Nat.le_of_ble_eq_true rfl⟩ (Nat.le_of_ble_eq_true rfl) (x_dr DX7_memberDigest 43 rfl) (fun v15 s14 h => ?_)
  refine r_i2l X (x_dr DX7_memberDigest 44 rfl) ?_
  refine r_ladd X (x_dr DX7_memberDigest 45 rfl) ?_
  refine r_nmJ (fun v16 ev16 => ?_)
  replace h := h v16 ev16
  refine r_lstore X ([(4, .long v16), (0, .ref (ad 13 0 0)), (3, .int a3)]) (x_dr DX7_memberDigest 46 rfl) (by decide) rfl ?_
  refine r_ldc2 X mkl_7_345 (x_dr DX7_memberDigest 47 rfl) ?_
  refine r_lload X (x_dr DX7_memberDigest 48 rfl) 0 rfl ?_
  refine r_lmul X (x_dr DX7_memberDigest 49 rfl) ?_
  refine r_aload_n X (x_dr DX7_memberDigest 50 rfl) 1 rfl rfl ?_
  refine r_iload_n X (x_dr DX7_memberDigest 51 rfl) 2 rfl rfl ?_
  refine r_iconst (v := 1) X (x_dr DX7_memberDigest 52 rfl) (by decide) ?_
  refine cl7_seatOf X (k7_seatOf h) rfl ml_7_275 ⟨Nat.le_of_ble_eq_true rfl, Nat.le_of_ble_eq_true rfl⟩ (Nat.le_of_ble_eq_true rfl) (x_dr DX7_memberDigest 53 rfl) (fun v18 s17 h => ?_)
  refine r_i2l X (x_dr DX7_memberDigest 54 rfl) ?_
  refine r_ladd X (x_dr DX7_memberDigest 55 rfl) ?_
  refine r_nmJ (fun v19 ev19 => ?_)
  replace h := h v19 ev19
  refine r_lstore X ([(4, .long v19), (0, .ref (ad 13 0 0)), (3, .int a3)]) (x_dr DX7_memberDigest 56 rfl) (by decide) rfl ?_
  refine r_ldc2 X mkl_7_345 (x_dr DX7_memberDigest 57 rfl) ?_
  refine r_lload X (x_dr DX7_memberDigest 58 rfl) 0 rfl ?_
  refine r_lmul X (x_dr DX7_memberDigest 59 rfl) ?_
  refine r_aload_n X (x_dr DX7_memberDigest 60 rfl) 1 rfl rfl ?_
  refine r_iload_n X (x_dr DX7_memberDigest 61 rfl) 2 rfl rfl ?_
  refine cl7_sortsBy X (k7_sortsBy h) rfl ml_7_307 ⟨Nat.le_of_ble_eq_true rfl, Nat.le_of_ble_eq_true rfl⟩ (Nat.le_of_ble_eq_true rfl) (x_dr DX7_memberDigest 62 rfl) (fun v21 s20 h => ?_)
  refine r_i2l X (x_dr DX7_memberDigest 63 rfl) ?_
  refine r_ladd X (x_dr DX7_memberDigest 64 rfl) ?_
  exact r_lret X rfl (x_dr DX7_memberDigest 65 rfl) ⟨_, rfl, h⟩
set_option maxRecDepth 10000 in
theorem w7_digest_L6 {ad : xAd} {E : xE} (X : FX ad E cX7_digest 5 RX7 (some .long) 11 256)   {K : Int64 → xSt → Prop} {Q : Int64 → xSt → Prop} : ∀ (n : Nat) (a1 : Int64) (a3 : Int32) (σ : xSt), d7_digest_L6 K Q n a1 a3 σ → (∀ (a1 : Int64) (s : xSt), K a1 s → KK ad E (qL Q) 31 ([(0, .ref (ad 13 0 0)), (1, .long a1)]) [] s) → KK ad E (qL Q) 6 ([(0, .ref (ad 13 0 0)), (1, .long a1), (3, .int a3)]) [] σ := by
  intro n
  induction n with
  | zero => intro a1 a3 σ h kk; exact h.elim
  | succ n ih =>
    intro a1 a3 σ h kk
    rw [d7_digest_L6] at h
    refine r_iload_n X (x_dr DX7_digest 4 rfl) 2 rfl rfl ?_
    refine r_bipush (v := 8) X (x_dr DX7_digest 5 rfl) (by decide) ?_
    refine r_icmp_ge X 31 (x_dr DX7_digest 6 rfl) (by decide) (fun c2 => ?_) (fun c2 => ?_)
    · replace h := h.1 c2
      refine r_norm X [0, 1] ([(0, .ref (ad 13 0 0)), (1, .long a1)]) rfl ?_
      exact kk _ _ h
    · replace h := h.2 c2
      refine r_ldc2 X mkl_7_345 (x_dr DX7_digest 7 rfl) ?_
      refine r_lload_n X (x_dr DX7_digest 8 rfl) 1 rfl rfl ?_
      refine r_lmul X (x_dr DX7_digest 9 rfl) ?_
      refine r_aload_n X (x_dr DX7_digest 10 rfl) 0 rfl rfl ?_
      refine r_iload_n X (x_dr DX7_digest 11 rfl) 2 rfl rfl ?_
      refine cl7_count X (k7_count h) rfl ml_7_353 ⟨Nat.le_of_ble_eq_true rfl, Nat.le_of_ble_eq_true rfl⟩ (Nat.le_of_ble_eq_true rfl) (x_dr DX7_digest 12 rfl) (fun v4 s3 h => ?_)
      refine r_i2l X (x_dr DX7_digest 13 rfl) ?_
      refine r_ladd X (x_dr DX7_digest 14 rfl) ?_
      refine r_nmJ (fun v5 ev5 => ?_)
      replace h := h v5 ev5
      refine r_lstore_n X ([(1, .long v5), (0, .ref (ad 13 0 0)), (3, .int a3)]) (x_dr DX7_digest 15 rfl) rfl (by decide) rfl ?_
      obtain ⟨v6, ev6⟩ : ∃ z : Int32, z = a3 + 1 := ⟨_, rfl⟩
      replace h := h v6 ev6
      refine r_iinc (v := v6) X ([(3, .int v6), (1, .long v5), (0, .ref (ad 13 0 0))]) 2 (x_dr DX7_digest 16 rfl) rfl (by rw [ev6]; rfl) (by decide) rfl ?_
      refine r_goto X 6 (x_dr DX7_digest 17 rfl) (by decide) ?_
      refine r_norm X [2, 1, 0] ([(0, .ref (ad 13 0 0)), (1, .long v5), (3, .int v6)]) rfl ?_
      exact ih _ _ _ h kk
set_option maxRecDepth 10000 in
theorem w7_digest_L59 {ad : xAd} {E : xE} (X : FX ad E cX7_digest 5 RX7 (some .long) 11 256)   {K : Int64 → xSt → Prop} {Q : Int64 → xSt → Prop} : ∀ (n : Nat) (a1 : Int64) (a3 : Int32) (σ : xSt), d7_digest_L59 K Q n a1 a3 σ → (∀ (a1 : Int64) (s : xSt), K a1 s → KK ad E (qL Q) 78 ([(0, .ref (ad 13 0 0)), (1, .long a1)]) [] s) → KK ad E (qL Q) 59 ([(0, .ref (ad 13 0 0)), (1, .long a1), (3, .int a3)]) [] σ := by
  intro n
  induction n with
  | zero => intro a1 a3 σ h kk; exact h.elim
  | succ n ih =>
    intro a1 a3 σ h kk
    rw [d7_digest_L59] at h
    refine r_iload_n X (x_dr DX7_digest 38 rfl) 2 rfl rfl ?_
    refine r_bipush (v := 12) X (x_dr DX7_digest 39 rfl) (by decide) ?_
    refine r_icmp_ge X 78 (x_dr DX7_digest 40 rfl) (by decide) (fun c15 => ?_) (fun c15 => ?_)
    · replace h := h.1 c15
      refine r_norm X [0, 1] ([(0, .ref (ad 13 0 0)), (1, .long a1)]) rfl ?_
      exact kk _ _ h
    · replace h := h.2 c15
      refine r_aload_n X (x_dr DX7_digest 41 rfl) 0 rfl rfl ?_
      refine r_lload_n X (x_dr DX7_digest 42 rfl) 1 rfl rfl ?_
      refine r_iload_n X (x_dr DX7_digest 43 rfl) 2 rfl rfl ?_
      refine cl7_placeDigest X (k7_placeDigest h) rfl ml_7_356 ⟨Nat.le_of_ble_eq_true rfl, Nat.le_of_ble_eq_true rfl⟩ (Nat.le_of_ble_eq_true rfl) (x_dr DX7_digest 44 rfl) (fun v17 s16 h => ?_)
      refine r_lstore_n X ([(1, .long v17), (0, .ref (ad 13 0 0)), (3, .int a3)]) (x_dr DX7_digest 45 rfl) rfl (by decide) rfl ?_
      obtain ⟨v18, ev18⟩ : ∃ z : Int32, z = a3 + 1 := ⟨_, rfl⟩
      replace h := h v18 ev18
      refine r_iinc (v := v18) X ([(3, .int v18), (1, .long v17), (0, .ref (ad 13 0 0))]) 2 (x_dr DX7_digest 46 rfl) rfl (by rw [ev18]; rfl) (by decide) rfl ?_
      refine r_goto X 59 (x_dr DX7_digest 47 rfl) (by decide) ?_
      refine r_norm X [2, 1, 0] ([(0, .ref (ad 13 0 0)), (1, .long v17), (3, .int v18)]) rfl ?_
      exact ih _ _ _ h kk
set_option maxRecDepth 10000 in
theorem w7_digest_L80 {ad : xAd} {E : xE} (X : FX ad E cX7_digest 5 RX7 (some .long) 11 256)   {K : Int64 → xSt → Prop} {Q : Int64 → xSt → Prop} : ∀ (n : Nat) (a1 : Int64) (a3 : Int32) (σ : xSt), d7_digest_L80 K Q n a1 a3 σ → (∀ (a1 : Int64) (s : xSt), K a1 s → KK ad E (qL Q) 101 ([(0, .ref (ad 13 0 0)), (1, .long a1)]) [] s) → KK ad E (qL Q) 80 ([(0, .ref (ad 13 0 0)), (1, .long a1), (3, .int a3)]) [] σ := by
  intro n
  induction n with
  | zero => intro a1 a3 σ h kk; exact h.elim
  | succ n ih =>
    intro a1 a3 σ h kk
    rw [d7_digest_L80] at h
    refine r_iload_n X (x_dr DX7_digest 50 rfl) 2 rfl rfl ?_
    refine r_aload_n X (x_dr DX7_digest 51 rfl) 0 rfl rfl ?_
    refine gf_7_134 X rfl (x_dr DX7_digest 52 rfl) ?_
    refine r_icmp_ge X 101 (x_dr DX7_digest 53 rfl) (by decide) (fun c21 => ?_) (fun c21 => ?_)
    · replace h := h.1 c21
      refine r_norm X [0, 1] ([(0, .ref (ad 13 0 0)), (1, .long a1)]) rfl ?_
      exact kk _ _ h
    · replace h := h.2 c21
      refine r_aload_n X (x_dr DX7_digest 54 rfl) 0 rfl rfl ?_
      refine r_lload_n X (x_dr DX7_digest 55 rfl) 1 rfl rfl ?_
      refine r_iload_n X (x_dr DX7_digest 56 rfl) 2 rfl rfl ?_
      refine cl7_memberDigest X (k7_memberDigest h) rfl ml_7_360 ⟨Nat.le_of_ble_eq_true rfl, Nat.le_of_ble_eq_true rfl⟩ (Nat.le_of_ble_eq_true rfl) (x_dr DX7_digest 57 rfl) (fun v23 s22 h => ?_)
      refine r_lstore_n X ([(1, .long v23), (0, .ref (ad 13 0 0)), (3, .int a3)]) (x_dr DX7_digest 58 rfl) rfl (by decide) rfl ?_
      obtain ⟨v24, ev24⟩ : ∃ z : Int32, z = a3 + 1 := ⟨_, rfl⟩
      replace h := h v24 ev24
      refine r_iinc (v := v24) X ([(3, .int v24), (1, .long v23), (0, .ref (ad 13 0 0))]) 2 (x_dr DX7_digest 59 rfl) rfl (by rw [ev24]; rfl) (by decide) rfl ?_
      refine r_goto X 80 (x_dr DX7_digest 60 rfl) (by decide) ?_
      refine r_norm X [2, 1, 0] ([(0, .ref (ad 13 0 0)), (1, .long v23), (3, .int v24)]) rfl ?_
      exact ih _ _ _ h kk
set_option maxRecDepth 10000 in
theorem w7_digest_L112 {ad : xAd} {E : xE} (X : FX ad E cX7_digest 5 RX7 (some .long) 11 256)   {a3 : Int32} {K : Int64 → xSt → Prop} {Q : Int64 → xSt → Prop} : ∀ (n : Nat) (a1 : Int64) (a4 : Int32) (σ : xSt), d7_digest_L112 a3 K Q n a1 a4 σ → (∀ (a1 : Int64) (s : xSt), K a1 s → KK ad E (qL Q) 139 ([(0, .ref (ad 13 0 0)), (1, .long a1), (3, .int a3)]) [] s) → KK ad E (qL Q) 112 ([(0, .ref (ad 13 0 0)), (1, .long a1), (3, .int a3), (4, .int a4)]) [] σ := by
  intro n
  induction n with
  | zero => intro a1 a4 σ h kk; exact h.elim
  | succ n ih =>
    intro a1 a4 σ h kk
    rw [d7_digest_L112] at h
    refine r_iload X (x_dr DX7_digest 68 rfl) 3 rfl ?_
    refine r_iconst (v := 3) X (x_dr DX7_digest 69 rfl) (by decide) ?_
    refine r_icmp_ge X 139 (x_dr DX7_digest 70 rfl) (by decide) (fun c28 => ?_) (fun c28 => ?_)
    · replace h := h.1 c28
      refine r_norm X [0, 1, 2] ([(0, .ref (ad 13 0 0)), (1, .long a1), (3, .int a3)]) rfl ?_
      exact kk _ _ h
    · replace h := h.2 c28
      refine r_ldc2 X mkl_7_345 (x_dr DX7_digest 71 rfl) ?_
      refine r_lload_n X (x_dr DX7_digest 72 rfl) 1 rfl rfl ?_
      refine r_lmul X (x_dr DX7_digest 73 rfl) ?_
      refine r_aload_n X (x_dr DX7_digest 74 rfl) 0 rfl rfl ?_
      refine r_iload_n X (x_dr DX7_digest 75 rfl) 2 rfl rfl ?_
      refine r_iload X (x_dr DX7_digest 76 rfl) 3 rfl ?_
      refine cl7_houseOf X (k7_houseOf h) rfl ml_7_251 ⟨Nat.le_of_ble_eq_true rfl, Nat.le_of_ble_eq_true rfl⟩ (Nat.le_of_ble_eq_true rfl) (x_dr DX7_digest 77 rfl) (fun v30 s29 h => ?_)
      refine r_i2l X (x_dr DX7_digest 78 rfl) ?_
      refine r_ladd X (x_dr DX7_digest 79 rfl) ?_
      refine r_nmJ (fun v31 ev31 => ?_)
      replace h := h v31 ev31
      refine r_lstore_n X ([(1, .long v31), (0, .ref (ad 13 0 0)), (3, .int a3), (4, .int a4)]) (x_dr DX7_digest 80 rfl) rfl (by decide) rfl ?_
      obtain ⟨v32, ev32⟩ : ∃ z : Int32, z = a4 + 1 := ⟨_, rfl⟩
      replace h := h v32 ev32
      refine r_iinc (v := v32) X ([(4, .int v32), (1, .long v31), (0, .ref (ad 13 0 0)), (3, .int a3)]) 3 (x_dr DX7_digest 81 rfl) rfl (by rw [ev32]; rfl) (by decide) rfl ?_
      refine r_goto X 112 (x_dr DX7_digest 82 rfl) (by decide) ?_
      refine r_norm X [2, 1, 3, 0] ([(0, .ref (ad 13 0 0)), (1, .long v31), (3, .int a3), (4, .int v32)]) rfl ?_
      exact ih _ _ _ h kk
set_option maxRecDepth 10000 in
theorem w7_digest_L103 {ad : xAd} {E : xE} (X : FX ad E cX7_digest 5 RX7 (some .long) 11 256)   {K : Int64 → xSt → Prop} {Q : Int64 → xSt → Prop} : ∀ (n : Nat) (a1 : Int64) (a3 : Int32) (σ : xSt), d7_digest_L103 K Q n a1 a3 σ → (∀ (a1 : Int64) (s : xSt), K a1 s → KK ad E (qL Q) 145 ([(0, .ref (ad 13 0 0)), (1, .long a1)]) [] s) → KK ad E (qL Q) 103 ([(0, .ref (ad 13 0 0)), (1, .long a1), (3, .int a3)]) [] σ := by
  intro n
  induction n with
  | zero => intro a1 a3 σ h kk; exact h.elim
  | succ n ih =>
    intro a1 a3 σ h kk
    rw [d7_digest_L103] at h
    refine r_iload_n X (x_dr DX7_digest 63 rfl) 2 rfl rfl ?_
    refine r_bipush (v := 20) X (x_dr DX7_digest 64 rfl) (by decide) ?_
    refine r_icmp_ge X 145 (x_dr DX7_digest 65 rfl) (by decide) (fun c27 => ?_) (fun c27 => ?_)
    · replace h := h.1 c27
      refine r_norm X [0, 1] ([(0, .ref (ad 13 0 0)), (1, .long a1)]) rfl ?_
      exact kk _ _ h
    · replace h := h.2 c27
      refine r_iconst (v := 0) X (x_dr DX7_digest 66 rfl) (by decide) ?_
      refine r_istore X ([(4, .int 0), (0, .ref (ad 13 0 0)), (1, .long a1), (3, .int a3)]) (x_dr DX7_digest 67 rfl) (by decide) rfl ?_
      refine r_norm X [1, 2, 3, 0] ([(0, .ref (ad 13 0 0)), (1, .long a1), (3, .int a3), (4, .int 0)]) rfl ?_
      refine w7_digest_L112 X  _ _ _ _ h (fun v34 s33 h => ?_)
      obtain ⟨v35, ev35⟩ : ∃ z : Int32, z = a3 + 1 := ⟨_, rfl⟩
      replace h := h v35 ev35
      refine r_iinc (v := v35) X ([(3, .int v35), (0, .ref (ad 13 0 0)), (1, .long v34)]) 2 (x_dr DX7_digest 83 rfl) rfl (by rw [ev35]; rfl) (by decide) rfl ?_
      refine r_goto X 103 (x_dr DX7_digest 84 rfl) (by decide) ?_
      refine r_norm X [1, 2, 0] ([(0, .ref (ad 13 0 0)), (1, .long v34), (3, .int v35)]) rfl ?_
      exact ih _ _ _ h kk
set_option maxRecDepth 10000 in
theorem w7_digest_L171 {ad : xAd} {E : xE} (X : FX ad E cX7_digest 5 RX7 (some .long) 11 256)   {K : Int64 → xSt → Prop} {Q : Int64 → xSt → Prop} : ∀ (n : Nat) (a1 : Int64) (a3 : Int32) (σ : xSt), d7_digest_L171 K Q n a1 a3 σ → (∀ (a1 : Int64) (s : xSt), K a1 s → KK ad E (qL Q) 195 ([(0, .ref (ad 13 0 0)), (1, .long a1)]) [] s) → KK ad E (qL Q) 171 ([(0, .ref (ad 13 0 0)), (1, .long a1), (3, .int a3)]) [] σ := by
  intro n
  induction n with
  | zero => intro a1 a3 σ h kk; exact h.elim
  | succ n ih =>
    intro a1 a3 σ h kk
    rw [d7_digest_L171] at h
    refine r_iload_n X (x_dr DX7_digest 103 rfl) 2 rfl rfl ?_
    refine r_iconst (v := 3) X (x_dr DX7_digest 104 rfl) (by decide) ?_
    refine r_icmp_ge X 195 (x_dr DX7_digest 105 rfl) (by decide) (fun c44 => ?_) (fun c44 => ?_)
    · replace h := h.1 c44
      refine r_norm X [0, 1] ([(0, .ref (ad 13 0 0)), (1, .long a1)]) rfl ?_
      exact kk _ _ h
    · replace h := h.2 c44
      refine r_ldc2 X mkl_7_345 (x_dr DX7_digest 106 rfl) ?_
      refine r_lload_n X (x_dr DX7_digest 107 rfl) 1 rfl rfl ?_
      refine r_lmul X (x_dr DX7_digest 108 rfl) ?_
      refine r_aload_n X (x_dr DX7_digest 109 rfl) 0 rfl rfl ?_
      refine r_iload_n X (x_dr DX7_digest 110 rfl) 2 rfl rfl ?_
      refine cl7_crowdOf X (k7_crowdOf h) rfl ml_7_266 ⟨Nat.le_of_ble_eq_true rfl, Nat.le_of_ble_eq_true rfl⟩ (Nat.le_of_ble_eq_true rfl) (x_dr DX7_digest 111 rfl) (fun v46 s45 h => ?_)
      refine r_i2l X (x_dr DX7_digest 112 rfl) ?_
      refine r_ladd X (x_dr DX7_digest 113 rfl) ?_
      refine r_nmJ (fun v47 ev47 => ?_)
      replace h := h v47 ev47
      refine r_lstore_n X ([(1, .long v47), (0, .ref (ad 13 0 0)), (3, .int a3)]) (x_dr DX7_digest 114 rfl) rfl (by decide) rfl ?_
      obtain ⟨v48, ev48⟩ : ∃ z : Int32, z = a3 + 1 := ⟨_, rfl⟩
      replace h := h v48 ev48
      refine r_iinc (v := v48) X ([(3, .int v48), (1, .long v47), (0, .ref (ad 13 0 0))]) 2 (x_dr DX7_digest 115 rfl) rfl (by rw [ev48]; rfl) (by decide) rfl ?_
      refine r_goto X 171 (x_dr DX7_digest 116 rfl) (by decide) ?_
      refine r_norm X [2, 1, 0] ([(0, .ref (ad 13 0 0)), (1, .long v47), (3, .int v48)]) rfl ?_
      exact ih _ _ _ h kk
set_option maxRecDepth 10000 in
theorem k7_digest {ad : xAd} {G : xG} {l : Launch} {σ : xSt} {Q : Int64 → xSt → Prop}  (h : d7_digest σ Q) : MC ad G l yX7_digest cX7_digest 5 (some .long) 11 256 [.ref (ad 13 0 0)] σ (qL Q) := by
  unfold d7_digest at h
  refine x_MC [(0, .ref (ad 13 0 0))] (by decide +kernel) rfl (Nat.le_of_ble_eq_true rfl) ?_
  intro E hG hl X
  replace X : FX ad E cX7_digest 5 RX7 (some .long) 11 256 := X
  refine r_ldc2 X mkl_7_351 (x_dr DX7_digest 0 rfl) ?_
  refine r_nmJ (fun v1 ev1 => ?_)
  replace h := h v1 ev1
  refine r_lstore_n X ([(1, .long v1), (0, .ref (ad 13 0 0))]) (x_dr DX7_digest 1 rfl) rfl (by decide) rfl ?_
  refine r_iconst (v := 0) X (x_dr DX7_digest 2 rfl) (by decide) ?_
  refine r_istore_n X ([(3, .int 0), (1, .long v1), (0, .ref (ad 13 0 0))]) (x_dr DX7_digest 3 rfl) rfl (by decide) rfl ?_
  refine r_norm X [2, 1, 0] ([(0, .ref (ad 13 0 0)), (1, .long v1), (3, .int 0)]) rfl ?_
  refine w7_digest_L6 X  _ _ _ _ h (fun v8 s7 h => ?_)
  refine r_ldc2 X mkl_7_345 (x_dr DX7_digest 18 rfl) ?_
  refine r_lload_n X (x_dr DX7_digest 19 rfl) 1 rfl rfl ?_
  refine r_lmul X (x_dr DX7_digest 20 rfl) ?_
  refine r_aload_n X (x_dr DX7_digest 21 rfl) 0 rfl rfl ?_
  refine r_iconst (v := 0) X (x_dr DX7_digest 22 rfl) (by decide) ?_
  refine cl7_faultOf X (k7_faultOf h) rfl ml_7_148 ⟨Nat.le_of_ble_eq_true rfl, Nat.le_of_ble_eq_true rfl⟩ (Nat.le_of_ble_eq_true rfl) (x_dr DX7_digest 23 rfl) (fun v10 s9 h => ?_)
  refine r_i2l X (x_dr DX7_digest 24 rfl) ?_
  refine r_ladd X (x_dr DX7_digest 25 rfl) ?_
  refine r_nmJ (fun v11 ev11 => ?_)
  replace h := h v11 ev11
  refine r_lstore_n X ([(1, .long v11), (0, .ref (ad 13 0 0))]) (x_dr DX7_digest 26 rfl) rfl (by decide) rfl ?_
  refine r_ldc2 X mkl_7_345 (x_dr DX7_digest 27 rfl) ?_
  refine r_lload_n X (x_dr DX7_digest 28 rfl) 0 rfl rfl ?_
  refine r_lmul X (x_dr DX7_digest 29 rfl) ?_
  refine r_aload_n X (x_dr DX7_digest 30 rfl) 1 rfl rfl ?_
  refine r_iconst (v := 1) X (x_dr DX7_digest 31 rfl) (by decide) ?_
  refine cl7_faultOf X (k7_faultOf h) rfl ml_7_148 ⟨Nat.le_of_ble_eq_true rfl, Nat.le_of_ble_eq_true rfl⟩ (Nat.le_of_ble_eq_true rfl) (x_dr DX7_digest 32 rfl) (fun v13 s12 h => ?_)
  refine r_i2l X (x_dr DX7_digest 33 rfl) ?_
  refine r_ladd X (x_dr DX7_digest 34 rfl) ?_
  refine r_nmJ (fun v14 ev14 => ?_)
  replace h := h v14 ev14
  refine r_lstore_n X ([(1, .long v14), (0, .ref (ad 13 0 0))]) (x_dr DX7_digest 35 rfl) rfl (by decide) rfl ?_
  refine r_iconst (v := 0) X (x_dr DX7_digest 36 rfl) (by decide) ?_
  refine r_istore_n X ([(3, .int 0), (1, .long v14), (0, .ref (ad 13 0 0))]) (x_dr DX7_digest 37 rfl) rfl (by decide) rfl ?_
  refine r_norm X [2, 1, 0] ([(0, .ref (ad 13 0 0)), (1, .long v14), (3, .int 0)]) rfl ?_
  refine w7_digest_L59 X  _ _ _ _ h (fun v20 s19 h => ?_)
  refine r_iconst (v := 0) X (x_dr DX7_digest 48 rfl) (by decide) ?_
  refine r_istore_n X ([(3, .int 0), (0, .ref (ad 13 0 0)), (1, .long v20)]) (x_dr DX7_digest 49 rfl) rfl (by decide) rfl ?_
  refine r_norm X [1, 2, 0] ([(0, .ref (ad 13 0 0)), (1, .long v20), (3, .int 0)]) rfl ?_
  refine w7_digest_L80 X  _ _ _ _ h (fun v26 s25 h => ?_)
  refine r_iconst (v := 0) X (x_dr DX7_digest 61 rfl) (by decide) ?_
  refine r_istore_n X ([(3, .int 0), (0, .ref (ad 13 0 0)), (1, .long v26)]) (x_dr DX7_digest 62 rfl) rfl (by decide) rfl ?_
  refine r_norm X [1, 2, 0] ([(0, .ref (ad 13 0 0)), (1, .long v26), (3, .int 0)]) rfl ?_
  refine w7_digest_L103 X  _ _ _ _ h (fun v37 s36 h => ?_)
  refine r_ldc2 X mkl_7_345 (x_dr DX7_digest 85 rfl) ?_
  refine r_lload_n X (x_dr DX7_digest 86 rfl) 1 rfl rfl ?_
  refine r_lmul X (x_dr DX7_digest 87 rfl) ?_
  refine r_aload_n X (x_dr DX7_digest 88 rfl) 0 rfl rfl ?_
  refine cl7_governmentsOf X (k7_governmentsOf h) rfl ml_7_257 ⟨Nat.le_of_ble_eq_true rfl, Nat.le_of_ble_eq_true rfl⟩ (Nat.le_of_ble_eq_true rfl) (x_dr DX7_digest 89 rfl) (fun v39 s38 h => ?_)
  refine r_i2l X (x_dr DX7_digest 90 rfl) ?_
  refine r_ladd X (x_dr DX7_digest 91 rfl) ?_
  refine r_nmJ (fun v40 ev40 => ?_)
  replace h := h v40 ev40
  refine r_lstore_n X ([(1, .long v40), (0, .ref (ad 13 0 0))]) (x_dr DX7_digest 92 rfl) rfl (by decide) rfl ?_
  refine r_ldc2 X mkl_7_345 (x_dr DX7_digest 93 rfl) ?_
  refine r_lload_n X (x_dr DX7_digest 94 rfl) 0 rfl rfl ?_
  refine r_lmul X (x_dr DX7_digest 95 rfl) ?_
  refine r_aload_n X (x_dr DX7_digest 96 rfl) 1 rfl rfl ?_
  refine cl7_carriedOf X (k7_carriedOf h) rfl ml_7_263 ⟨Nat.le_of_ble_eq_true rfl, Nat.le_of_ble_eq_true rfl⟩ (Nat.le_of_ble_eq_true rfl) (x_dr DX7_digest 97 rfl) (fun v42 s41 h => ?_)
  refine r_i2l X (x_dr DX7_digest 98 rfl) ?_
  refine r_ladd X (x_dr DX7_digest 99 rfl) ?_
  refine r_nmJ (fun v43 ev43 => ?_)
  replace h := h v43 ev43
  refine r_lstore_n X ([(1, .long v43), (0, .ref (ad 13 0 0))]) (x_dr DX7_digest 100 rfl) rfl (by decide) rfl ?_
  refine r_iconst (v := 0) X (x_dr DX7_digest 101 rfl) (by decide) ?_
  refine r_istore_n X ([(3, .int 0), (1, .long v43), (0, .ref (ad 13 0 0))]) (x_dr DX7_digest 102 rfl) rfl (by decide) rfl ?_
  refine r_norm X [2, 1, 0] ([(0, .ref (ad 13 0 0)), (1, .long v43), (3, .int 0)]) rfl ?_
  refine w7_digest_L171 X  _ _ _ _ h (fun v50 s49 h => ?_)
  refine r_ldc2 X mkl_7_345 (x_dr DX7_digest 117 rfl) ?_
  refine r_lload_n X (x_dr DX7_digest 118 rfl) 1 rfl rfl ?_
  refine r_lmul X (x_dr DX7_digest 119 rfl) ?_
  refine r_aload_n X (x_dr DX7_digest 120 rfl) 0 rfl rfl ?_
  refine cl7_oratorOf X (k7_oratorOf h) rfl ml_7_269 ⟨Nat.le_of_ble_eq_true rfl, Nat.le_of_ble_eq_true rfl⟩ (Nat.le_of_ble_eq_true rfl) (x_dr DX7_digest 121 rfl) (fun v52 s51 h => ?_)
  refine r_i2l X (x_dr DX7_digest 122 rfl) ?_
  refine r_ladd X (x_dr DX7_digest 123 rfl) ?_
  refine r_nmJ (fun v53 ev53 => ?_)
  replace h := h v53 ev53
  refine r_lstore_n X ([(1, .long v53), (0, .ref (ad 13 0 0))]) (x_dr DX7_digest 124 rfl) rfl (by decide) rfl ?_
  refine r_ldc2 X mkl_7_345 (x_dr DX7_digest 125 rfl) ?_
  refine r_lload_n X (x_dr DX7_digest 126 rfl) 0 rfl rfl ?_
  refine r_lmul X (x_dr DX7_digest 127 rfl) ?_
  refine r_aload_n X (x_dr DX7_digest 128 rfl) 1 rfl rfl ?_
  refine cl7_stillOf X (k7_stillOf h) rfl ml_7_272 ⟨Nat.le_of_ble_eq_true rfl, Nat.le_of_ble_eq_true rfl⟩ (Nat.le_of_ble_eq_true rfl) (x_dr DX7_digest 129 rfl) (fun v55 s54 h => ?_)
  refine r_i2l X (x_dr DX7_digest 130 rfl) ?_
  refine r_ladd X (x_dr DX7_digest 131 rfl) ?_
  refine r_nmJ (fun v56 ev56 => ?_)
  replace h := h v56 ev56
  refine r_lstore_n X ([(1, .long v56), (0, .ref (ad 13 0 0))]) (x_dr DX7_digest 132 rfl) rfl (by decide) rfl ?_
  refine r_ldc2 X mkl_7_345 (x_dr DX7_digest 133 rfl) ?_
  refine r_lload_n X (x_dr DX7_digest 134 rfl) 0 rfl rfl ?_
  refine r_lmul X (x_dr DX7_digest 135 rfl) ?_
  refine r_aload_n X (x_dr DX7_digest 136 rfl) 1 rfl rfl ?_
  refine r_bipush (v := 8) X (x_dr DX7_digest 137 rfl) (by decide) ?_
  refine r_iconst (v := 0) X (x_dr DX7_digest 138 rfl) (by decide) ?_
  refine cl7_dustOf X (k7_dustOf h) rfl ml_7_282 ⟨Nat.le_of_ble_eq_true rfl, Nat.le_of_ble_eq_true rfl⟩ (Nat.le_of_ble_eq_true rfl) (x_dr DX7_digest 139 rfl) (fun v58 s57 h => ?_)
  refine r_i2l X (x_dr DX7_digest 140 rfl) ?_
  refine r_ladd X (x_dr DX7_digest 141 rfl) ?_
  refine r_nmJ (fun v59 ev59 => ?_)
  replace h := h v59 ev59
  refine r_lstore_n X ([(1, .long v59), (0, .ref (ad 13 0 0))]) (x_dr DX7_digest 142 rfl) rfl (by decide) rfl ?_
  refine r_ldc2 X mkl_7_345 (x_dr DX7_digest 143 rfl) ?_
  refine r_lload_n X (x_dr DX7_digest 144 rfl) 0 rfl rfl ?_
  refine r_lmul X (x_dr DX7_digest 145 rfl) ?_
  refine r_aload_n X (x_dr DX7_digest 146 rfl) 1 rfl rfl ?_
  refine r_bipush (v := 8) X (x_dr DX7_digest 147 rfl) (by decide) ?_
  refine r_iconst (v := 1) X (x_dr DX7_digest 148 rfl) (by decide) ?_
  refine cl7_dustOf X (k7_dustOf h) rfl ml_7_282 ⟨Nat.le_of_ble_eq_true rfl, Nat.le_of_ble_eq_true rfl⟩ (Nat.le_of_ble_eq_true rfl) (x_dr DX7_digest 149 rfl) (fun v61 s60 h => ?_)
  refine r_i2l X (x_dr DX7_digest 150 rfl) ?_
  refine r_ladd X (x_dr DX7_digest 151 rfl) ?_
  refine r_nmJ (fun v62 ev62 => ?_)
  replace h := h v62 ev62
  refine r_lstore_n X ([(1, .long v62), (0, .ref (ad 13 0 0))]) (x_dr DX7_digest 152 rfl) rfl (by decide) rfl ?_
  refine r_ldc2 X mkl_7_345 (x_dr DX7_digest 153 rfl) ?_
  refine r_lload_n X (x_dr DX7_digest 154 rfl) 0 rfl rfl ?_
  refine r_lmul X (x_dr DX7_digest 155 rfl) ?_
  refine r_aload_n X (x_dr DX7_digest 156 rfl) 1 rfl rfl ?_
  refine r_iconst (v := 0) X (x_dr DX7_digest 157 rfl) (by decide) ?_
  refine cl7_boyOf X (k7_boyOf h) rfl ml_7_285 ⟨Nat.le_of_ble_eq_true rfl, Nat.le_of_ble_eq_true rfl⟩ (Nat.le_of_ble_eq_true rfl) (x_dr DX7_digest 158 rfl) (fun v64 s63 h => ?_)
  refine r_i2l X (x_dr DX7_digest 159 rfl) ?_
  refine r_ladd X (x_dr DX7_digest 160 rfl) ?_
  refine r_nmJ (fun v65 ev65 => ?_)
  replace h := h v65 ev65
  refine r_lstore_n X ([(1, .long v65), (0, .ref (ad 13 0 0))]) (x_dr DX7_digest 161 rfl) rfl (by decide) rfl ?_
  refine r_ldc2 X mkl_7_345 (x_dr DX7_digest 162 rfl) ?_
  refine r_lload_n X (x_dr DX7_digest 163 rfl) 0 rfl rfl ?_
  refine r_lmul X (x_dr DX7_digest 164 rfl) ?_
  refine r_aload_n X (x_dr DX7_digest 165 rfl) 1 rfl rfl ?_
  refine r_iconst (v := 1) X (x_dr DX7_digest 166 rfl) (by decide) ?_
  refine cl7_boyOf X (k7_boyOf h) rfl ml_7_285 ⟨Nat.le_of_ble_eq_true rfl, Nat.le_of_ble_eq_true rfl⟩ (Nat.le_of_ble_eq_true rfl) (x_dr DX7_digest 167 rfl) (fun v67 s66 h => ?_)
  refine r_i2l X (x_dr DX7_digest 168 rfl) ?_
  refine r_ladd X (x_dr DX7_digest 169 rfl) ?_
  refine r_nmJ (fun v68 ev68 => ?_)
  replace h := h v68 ev68
  refine r_lstore_n X ([(1, .long v68), (0, .ref (ad 13 0 0))]) (x_dr DX7_digest 170 rfl) rfl (by decide) rfl ?_
  refine r_aload_n X (x_dr DX7_digest 171 rfl) 1 rfl rfl ?_
  refine cl7_calmBy X (k7_calmBy h) rfl ml_7_291 ⟨Nat.le_of_ble_eq_true rfl, Nat.le_of_ble_eq_true rfl⟩ (Nat.le_of_ble_eq_true rfl) (x_dr DX7_digest 172 rfl) (fun v70 s69 h => ?_)
  refine r_istore_n X ([(3, .int v70), (1, .long v68), (0, .ref (ad 13 0 0))]) (x_dr DX7_digest 173 rfl) rfl (by decide) rfl ?_
  refine r_ldc2 X mkl_7_345 (x_dr DX7_digest 174 rfl) ?_
  refine r_lload_n X (x_dr DX7_digest 175 rfl) 1 rfl rfl ?_
  refine r_lmul X (x_dr DX7_digest 176 rfl) ?_
  refine r_iload_n X (x_dr DX7_digest 177 rfl) 0 rfl rfl ?_
  refine r_i2l X (x_dr DX7_digest 178 rfl) ?_
  refine r_ladd X (x_dr DX7_digest 179 rfl) ?_
  refine r_nmJ (fun v71 ev71 => ?_)
  replace h := h v71 ev71
  refine r_lstore_n X ([(1, .long v71), (3, .int v70), (0, .ref (ad 13 0 0))]) (x_dr DX7_digest 180 rfl) rfl (by decide) rfl ?_
  refine r_ldc2 X mkl_7_345 (x_dr DX7_digest 181 rfl) ?_
  refine r_lload_n X (x_dr DX7_digest 182 rfl) 0 rfl rfl ?_
  refine r_lmul X (x_dr DX7_digest 183 rfl) ?_
  refine r_aload_n X (x_dr DX7_digest 184 rfl) 2 rfl rfl ?_
  refine r_iload_n X (x_dr DX7_digest 185 rfl) 1 rfl rfl ?_
  refine r_iconst (v := 0) X (x_dr DX7_digest 186 rfl) (by decide) ?_
  refine cl7_ofRow X (k7_ofRow h) rfl ml_7_294 ⟨Nat.le_of_ble_eq_true rfl, Nat.le_of_ble_eq_true rfl⟩ (Nat.le_of_ble_eq_true rfl) (x_dr DX7_digest 187 rfl) (fun v73 s72 h => ?_)
  refine r_i2l X (x_dr DX7_digest 188 rfl) ?_
  refine r_ladd X (x_dr DX7_digest 189 rfl) ?_
  refine r_nmJ (fun v74 ev74 => ?_)
  replace h := h v74 ev74
  refine r_lstore_n X ([(1, .long v74), (3, .int v70), (0, .ref (ad 13 0 0))]) (x_dr DX7_digest 190 rfl) rfl (by decide) rfl ?_
  refine r_ldc2 X mkl_7_345 (x_dr DX7_digest 191 rfl) ?_
  refine r_lload_n X (x_dr DX7_digest 192 rfl) 0 rfl rfl ?_
  refine r_lmul X (x_dr DX7_digest 193 rfl) ?_
  refine r_aload_n X (x_dr DX7_digest 194 rfl) 2 rfl rfl ?_
  refine cl7_neverNow X (k7_neverNow h) rfl ml_7_304 ⟨Nat.le_of_ble_eq_true rfl, Nat.le_of_ble_eq_true rfl⟩ (Nat.le_of_ble_eq_true rfl) (x_dr DX7_digest 195 rfl) (fun v76 s75 h => ?_)
  refine r_i2l X (x_dr DX7_digest 196 rfl) ?_
  refine r_ladd X (x_dr DX7_digest 197 rfl) ?_
  refine r_nmJ (fun v77 ev77 => ?_)
  replace h := h v77 ev77
  refine r_lstore_n X ([(1, .long v77), (3, .int v70), (0, .ref (ad 13 0 0))]) (x_dr DX7_digest 198 rfl) rfl (by decide) rfl ?_
  refine r_ldc2 X mkl_7_345 (x_dr DX7_digest 199 rfl) ?_
  refine r_lload_n X (x_dr DX7_digest 200 rfl) 0 rfl rfl ?_
  refine r_lmul X (x_dr DX7_digest 201 rfl) ?_
  refine r_aload_n X (x_dr DX7_digest 202 rfl) 2 rfl rfl ?_
  refine r_iconst (v := 5) X (x_dr DX7_digest 203 rfl) (by decide) ?_
  refine r_bipush (v := 9) X (x_dr DX7_digest 204 rfl) (by decide) ?_
  refine r_iconst (v := 0) X (x_dr DX7_digest 205 rfl) (by decide) ?_
  refine cl7_chanceOf X (k7_chanceOf h) rfl ml_7_320 ⟨Nat.le_of_ble_eq_true rfl, Nat.le_of_ble_eq_true rfl⟩ (Nat.le_of_ble_eq_true rfl) (x_dr DX7_digest 206 rfl) (fun v79 s78 h => ?_)
  refine r_ladd X (x_dr DX7_digest 207 rfl) ?_
  refine r_nmJ (fun v80 ev80 => ?_)
  replace h := h v80 ev80
  refine r_lstore_n X ([(1, .long v80), (3, .int v70), (0, .ref (ad 13 0 0))]) (x_dr DX7_digest 208 rfl) rfl (by decide) rfl ?_
  refine r_ldc2 X mkl_7_345 (x_dr DX7_digest 209 rfl) ?_
  refine r_lload_n X (x_dr DX7_digest 210 rfl) 0 rfl rfl ?_
  refine r_lmul X (x_dr DX7_digest 211 rfl) ?_
  refine r_aload_n X (x_dr DX7_digest 212 rfl) 2 rfl rfl ?_
  refine r_iconst (v := 5) X (x_dr DX7_digest 213 rfl) (by decide) ?_
  refine r_bipush (v := 9) X (x_dr DX7_digest 214 rfl) (by decide) ?_
  refine r_iconst (v := 1) X (x_dr DX7_digest 215 rfl) (by decide) ?_
  refine cl7_chanceOf X (k7_chanceOf h) rfl ml_7_320 ⟨Nat.le_of_ble_eq_true rfl, Nat.le_of_ble_eq_true rfl⟩ (Nat.le_of_ble_eq_true rfl) (x_dr DX7_digest 216 rfl) (fun v82 s81 h => ?_)
  refine r_ladd X (x_dr DX7_digest 217 rfl) ?_
  refine r_nmJ (fun v83 ev83 => ?_)
  replace h := h v83 ev83
  refine r_lstore_n X ([(1, .long v83), (3, .int v70), (0, .ref (ad 13 0 0))]) (x_dr DX7_digest 218 rfl) rfl (by decide) rfl ?_
  refine r_ldc2 X mkl_7_345 (x_dr DX7_digest 219 rfl) ?_
  refine r_lload_n X (x_dr DX7_digest 220 rfl) 0 rfl rfl ?_
  refine r_lmul X (x_dr DX7_digest 221 rfl) ?_
  refine r_aload_n X (x_dr DX7_digest 222 rfl) 2 rfl rfl ?_
  refine r_bipush (v := 7) X (x_dr DX7_digest 223 rfl) (by decide) ?_
  refine r_bipush (v := 6) X (x_dr DX7_digest 224 rfl) (by decide) ?_
  refine r_iconst (v := 0) X (x_dr DX7_digest 225 rfl) (by decide) ?_
  refine cl7_agesOf X (k7_agesOf h) rfl ml_7_329 ⟨Nat.le_of_ble_eq_true rfl, Nat.le_of_ble_eq_true rfl⟩ (Nat.le_of_ble_eq_true rfl) (x_dr DX7_digest 226 rfl) (fun v85 s84 h => ?_)
  refine r_i2l X (x_dr DX7_digest 227 rfl) ?_
  refine r_ladd X (x_dr DX7_digest 228 rfl) ?_
  refine r_nmJ (fun v86 ev86 => ?_)
  replace h := h v86 ev86
  refine r_lstore_n X ([(1, .long v86), (3, .int v70), (0, .ref (ad 13 0 0))]) (x_dr DX7_digest 229 rfl) rfl (by decide) rfl ?_
  refine r_ldc2 X mkl_7_345 (x_dr DX7_digest 230 rfl) ?_
  refine r_lload_n X (x_dr DX7_digest 231 rfl) 0 rfl rfl ?_
  refine r_lmul X (x_dr DX7_digest 232 rfl) ?_
  refine r_aload_n X (x_dr DX7_digest 233 rfl) 2 rfl rfl ?_
  refine r_bipush (v := 7) X (x_dr DX7_digest 234 rfl) (by decide) ?_
  refine r_bipush (v := 6) X (x_dr DX7_digest 235 rfl) (by decide) ?_
  refine r_iconst (v := 1) X (x_dr DX7_digest 236 rfl) (by decide) ?_
  refine cl7_agesOf X (k7_agesOf h) rfl ml_7_329 ⟨Nat.le_of_ble_eq_true rfl, Nat.le_of_ble_eq_true rfl⟩ (Nat.le_of_ble_eq_true rfl) (x_dr DX7_digest 237 rfl) (fun v88 s87 h => ?_)
  refine r_i2l X (x_dr DX7_digest 238 rfl) ?_
  refine r_ladd X (x_dr DX7_digest 239 rfl) ?_
  exact r_lret X rfl (x_dr DX7_digest 240 rfl) ⟨_, rfl, h⟩
