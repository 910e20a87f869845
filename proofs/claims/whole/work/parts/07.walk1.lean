set_option maxRecDepth 10000 in
theorem k0_start {ad : xAd} {G : xG} {l : Launch} {σ : xSt} {Q : xSt → Prop}  (h : d0_start σ Q) : MC ad G l yX0_start cX0_start 1 none 0 0 [.ref (ad 8 0 0)] σ (qV Q) := by
  unfold d0_start at h
  refine x_MC [(0, .ref (ad 8 0 0))] (by decide +kernel) rfl (Nat.le_of_ble_eq_true rfl) ?_
  intro E hG hl X
  replace X : FX ad E cX0_start 1 RX0 none 0 0 := X
  refine r_aload_n X (x_dr DX0_start 0 rfl) 0 rfl rfl ?_
  refine r_iconst (v := (-1)) X (x_dr DX0_start 1 rfl) (by decide) ?_
  refine pf_0_9 X rfl (x_dr DX0_start 2 rfl) ?_
  refine r_nmS (fun s1 es1 => ?_)
  replace h := h s1 es1
  refine r_aload_n X (x_dr DX0_start 3 rfl) 0 rfl rfl ?_
  refine r_iconst (v := (-1)) X (x_dr DX0_start 4 rfl) (by decide) ?_
  refine pf_0_15 X rfl (x_dr DX0_start 5 rfl) ?_
  refine r_nmS (fun s2 es2 => ?_)
  replace h := h s2 es2
  exact r_vret X rfl (x_dr DX0_start 6 rfl) ⟨rfl, h⟩
set_option maxRecDepth 10000 in
theorem k0_offer {ad : xAd} {G : xG} {l : Launch} {a1 : Int32} {a2 : Int32} {σ : xSt} {Q : xSt → Prop}  (h : d0_offer a1 a2 σ Q) : MC ad G l yX0_offer cX0_offer 3 none 0 0 [.ref (ad 8 0 0), .int a1, .int a2] σ (qV Q) := by
  unfold d0_offer at h
  refine x_MC [(0, .ref (ad 8 0 0)), (1, .int a1), (2, .int a2)] (by decide +kernel) rfl (Nat.le_of_ble_eq_true rfl) ?_
  intro E hG hl X
  replace X : FX ad E cX0_offer 3 RX0 none 0 0 := X
  refine r_iload_n X (x_dr DX0_offer 0 rfl) 2 rfl rfl ?_
  refine r_aload_n X (x_dr DX0_offer 1 rfl) 0 rfl rfl ?_
  refine gf_0_15 X rfl (x_dr DX0_offer 2 rfl) ?_
  refine r_icmp_le X 18 (x_dr DX0_offer 3 rfl) (by decide) (fun c1 => ?_) (fun c1 => ?_)
  · replace h := h.1 c1
    exact r_vret X rfl (x_dr DX0_offer 10 rfl) ⟨rfl, h⟩
  · replace h := h.2 c1
    refine r_aload_n X (x_dr DX0_offer 4 rfl) 0 rfl rfl ?_
    refine r_iload_n X (x_dr DX0_offer 5 rfl) 1 rfl rfl ?_
    refine pf_0_9 X rfl (x_dr DX0_offer 6 rfl) ?_
    refine r_nmS (fun s2 es2 => ?_)
    replace h := h s2 es2
    refine r_aload_n X (x_dr DX0_offer 7 rfl) 0 rfl rfl ?_
    refine r_iload_n X (x_dr DX0_offer 8 rfl) 2 rfl rfl ?_
    refine pf_0_15 X rfl (x_dr DX0_offer 9 rfl) ?_
    refine r_nmS (fun s3 es3 => ?_)
    replace h := h s3 es3
    exact r_vret X rfl (x_dr DX0_offer 10 rfl) ⟨rfl, h⟩
set_option maxRecDepth 10000 in
theorem k1_addEvent {ad : xAd} {G : xG} {l : Launch} {o : Nat} {a1 : Int32} {a2 : Int32} {a3 : Int32} {σ : xSt} {Q : xSt → Prop} (ho : x_cl o = 1) (h : d1_addEvent o a1 a2 a3 σ Q) : MC ad G l yX1_addEvent cX1_addEvent 4 none 0 0 [.ref (ad o 0 0), .int a1, .int a2, .int a3] σ (qV Q) := by
  unfold d1_addEvent at h
  refine x_MC [(0, .ref (ad o 0 0)), (1, .int a1), (2, .int a2), (3, .int a3)] (by decide +kernel) rfl (Nat.le_of_ble_eq_true rfl) ?_
  intro E hG hl X
  replace X : FX ad E cX1_addEvent 4 RX1 none 0 0 := X
  refine r_aload_n X (x_dr DX1_addEvent 0 rfl) 0 rfl rfl ?_
  refine gf_1_41 X ho (x_dr DX1_addEvent 1 rfl) ?_
  refine r_if_lt X 19 (x_dr DX1_addEvent 2 rfl) (by decide) (fun c1 => ?_) (fun c1 => ?_)
  · replace h := h.1 c1
    exact r_vret X rfl (x_dr DX1_addEvent 9 rfl) ⟨rfl, h⟩
  · replace h := h.2 c1
    refine r_aload_n X (x_dr DX1_addEvent 3 rfl) 0 rfl rfl ?_
    refine gf_1_41 X ho (x_dr DX1_addEvent 4 rfl) ?_
    refine r_aload_n X (x_dr DX1_addEvent 5 rfl) 0 rfl rfl ?_
    refine gf_1_24 X ho (x_dr DX1_addEvent 6 rfl) ?_
    refine r_alen X ho rfl (v := 9) (by decide) (x_dr DX1_addEvent 7 rfl) ?_
    refine r_icmp_lt X 20 (x_dr DX1_addEvent 8 rfl) (by decide) (fun c2 => ?_) (fun c2 => ?_)
    · replace h := h.1 c2
      refine r_aload_n X (x_dr DX1_addEvent 10 rfl) 0 rfl rfl ?_
      refine gf_1_24 X ho (x_dr DX1_addEvent 11 rfl) ?_
      refine r_aload_n X (x_dr DX1_addEvent 12 rfl) 0 rfl rfl ?_
      refine gf_1_41 X ho (x_dr DX1_addEvent 13 rfl) ?_
      refine r_iload_n X (x_dr DX1_addEvent 14 rfl) 1 rfl rfl ?_
      obtain ⟨b3, h⟩ := h
      refine r_iast X ho rfl b3 (x_dr DX1_addEvent 15 rfl) ?_
      refine r_nmS (fun s4 es4 => ?_)
      replace h := h s4 es4
      refine r_aload_n X (x_dr DX1_addEvent 16 rfl) 0 rfl rfl ?_
      refine gf_1_27 X ho (x_dr DX1_addEvent 17 rfl) ?_
      refine r_aload_n X (x_dr DX1_addEvent 18 rfl) 0 rfl rfl ?_
      refine gf_1_41 X ho (x_dr DX1_addEvent 19 rfl) ?_
      refine r_iload_n X (x_dr DX1_addEvent 20 rfl) 2 rfl rfl ?_
      obtain ⟨b5, h⟩ := h
      refine r_iast X ho rfl b5 (x_dr DX1_addEvent 21 rfl) ?_
      refine r_nmS (fun s6 es6 => ?_)
      replace h := h s6 es6
      refine r_aload_n X (x_dr DX1_addEvent 22 rfl) 0 rfl rfl ?_
      refine gf_1_30 X ho (x_dr DX1_addEvent 23 rfl) ?_
      refine r_aload_n X (x_dr DX1_addEvent 24 rfl) 0 rfl rfl ?_
      refine gf_1_41 X ho (x_dr DX1_addEvent 25 rfl) ?_
      refine r_iload_n X (x_dr DX1_addEvent 26 rfl) 3 rfl rfl ?_
      obtain ⟨b7, h⟩ := h
      refine r_iast X ho rfl b7 (x_dr DX1_addEvent 27 rfl) ?_
      refine r_nmS (fun s8 es8 => ?_)
      replace h := h s8 es8
      refine r_aload_n X (x_dr DX1_addEvent 28 rfl) 0 rfl rfl ?_
      refine r_dup X (x_dr DX1_addEvent 29 rfl) rfl ?_
      refine gf_1_41 X ho (x_dr DX1_addEvent 30 rfl) ?_
      refine r_iconst (v := 1) X (x_dr DX1_addEvent 31 rfl) (by decide) ?_
      refine r_iadd X (x_dr DX1_addEvent 32 rfl) ?_
      refine pf_1_41 X ho (x_dr DX1_addEvent 33 rfl) ?_
      refine r_nmS (fun s9 es9 => ?_)
      replace h := h s9 es9
      exact r_vret X rfl (x_dr DX1_addEvent 34 rfl) ⟨rfl, h⟩
    · replace h := h.2 c2
      exact r_vret X rfl (x_dr DX1_addEvent 9 rfl) ⟨rfl, h⟩
set_option maxRecDepth 10000 in
theorem w1_takeEvents_L12 {ad : xAd} {E : xE} (X : FX ad E cX1_takeEvents 4 RX1 none 1 23) {o o1 : Nat} (ho : x_cl o = 1) (ho1 : x_cl o1 = 1) {a2 : Int32} {K : xSt → Prop} {Q : xSt → Prop} : ∀ (n : Nat) (a3 : Int32) (σ : xSt), d1_takeEvents_L12 o o1 a2 K Q n a3 σ → (∀ (s : xSt), K  s → KK ad E (qV Q) 66 ([]) [] s) → KK ad E (qV Q) 12 ([(0, .ref (ad o 0 0)), (1, .ref (ad o1 0 0)), (2, .int a2), (3, .int a3)]) [] σ := by
  intro n
  induction n with
  | zero => intro a3 σ h kk; exact h.elim
  | succ n ih =>
    intro a3 σ h kk
    rw [d1_takeEvents_L12] at h
    refine r_iload_n X (x_dr DX1_takeEvents 8 rfl) 3 rfl rfl ?_
    refine r_aload_n X (x_dr DX1_takeEvents 9 rfl) 1 rfl rfl ?_
    refine gf_1_41 X ho1 (x_dr DX1_takeEvents 10 rfl) ?_
    refine r_icmp_ge X 66 (x_dr DX1_takeEvents 11 rfl) (by decide) (fun c2 => ?_) (fun c2 => ?_)
    · replace h := h.1 c2
      refine r_norm X [] ([]) rfl ?_
      exact kk  _ h
    · replace h := h.2 c2
      refine r_iload_n X (x_dr DX1_takeEvents 12 rfl) 3 rfl rfl ?_
      refine r_aload_n X (x_dr DX1_takeEvents 13 rfl) 1 rfl rfl ?_
      refine gf_1_24 X ho1 (x_dr DX1_takeEvents 14 rfl) ?_
      refine r_alen X ho1 rfl (v := 9) (by decide) (x_dr DX1_takeEvents 15 rfl) ?_
      refine r_icmp_ge X 66 (x_dr DX1_takeEvents 16 rfl) (by decide) (fun c3 => ?_) (fun c3 => ?_)
      · replace h := h.1 c3
        refine r_norm X [] ([]) rfl ?_
        exact kk  _ h
      · replace h := h.2 c3
        refine r_iload_n X (x_dr DX1_takeEvents 17 rfl) 2 rfl rfl ?_
        refine r_iload_n X (x_dr DX1_takeEvents 18 rfl) 3 rfl rfl ?_
        refine r_ishr X (x_dr DX1_takeEvents 19 rfl) ?_
        refine r_iconst (v := 1) X (x_dr DX1_takeEvents 20 rfl) (by decide) ?_
        refine r_iand X (x_dr DX1_takeEvents 21 rfl) ?_
        refine r_iconst (v := 1) X (x_dr DX1_takeEvents 22 rfl) (by decide) ?_
        refine r_icmp_ne X 60 (x_dr DX1_takeEvents 23 rfl) (by decide) (fun c4 => ?_) (fun c4 => ?_)
        · replace h := h.1 c4
          obtain ⟨v5, ev5⟩ : ∃ z : Int32, z = a3 + 1 := ⟨_, rfl⟩
          replace h := h v5 ev5
          refine r_iinc (v := v5) X ([(3, .int v5), (0, .ref (ad o 0 0)), (1, .ref (ad o1 0 0)), (2, .int a2)]) 3 (x_dr DX1_takeEvents 38 rfl) rfl (by rw [ev5]; rfl) (by decide) rfl ?_
          refine r_goto X 12 (x_dr DX1_takeEvents 39 rfl) (by decide) ?_
          refine r_norm X [1, 2, 3, 0] ([(0, .ref (ad o 0 0)), (1, .ref (ad o1 0 0)), (2, .int a2), (3, .int v5)]) rfl ?_
          exact ih _ _ h kk
        · replace h := h.2 c4
          refine r_aload_n X (x_dr DX1_takeEvents 24 rfl) 0 rfl rfl ?_
          refine r_aload_n X (x_dr DX1_takeEvents 25 rfl) 1 rfl rfl ?_
          refine gf_1_24 X ho1 (x_dr DX1_takeEvents 26 rfl) ?_
          refine r_iload_n X (x_dr DX1_takeEvents 27 rfl) 3 rfl rfl ?_
          obtain ⟨b6, h⟩ := h
          refine r_iald X ho1 rfl b6 (x_dr DX1_takeEvents 28 rfl) ?_
          refine r_aload_n X (x_dr DX1_takeEvents 29 rfl) 1 rfl rfl ?_
          refine gf_1_27 X ho1 (x_dr DX1_takeEvents 30 rfl) ?_
          refine r_iload_n X (x_dr DX1_takeEvents 31 rfl) 3 rfl rfl ?_
          obtain ⟨b7, h⟩ := h
          refine r_iald X ho1 rfl b7 (x_dr DX1_takeEvents 32 rfl) ?_
          refine r_aload_n X (x_dr DX1_takeEvents 33 rfl) 1 rfl rfl ?_
          refine gf_1_30 X ho1 (x_dr DX1_takeEvents 34 rfl) ?_
          refine r_iload_n X (x_dr DX1_takeEvents 35 rfl) 3 rfl rfl ?_
          obtain ⟨b8, h⟩ := h
          refine r_iald X ho1 rfl b8 (x_dr DX1_takeEvents 36 rfl) ?_
          refine cl1_addEvent X (k1_addEvent ho h) ho ml_1_44 ⟨Nat.le_of_ble_eq_true rfl, Nat.le_of_ble_eq_true rfl⟩ (Nat.le_of_ble_eq_true rfl) (x_dr DX1_takeEvents 37 rfl) (fun s9 h => ?_)
          obtain ⟨v10, ev10⟩ : ∃ z : Int32, z = a3 + 1 := ⟨_, rfl⟩
          replace h := h v10 ev10
          refine r_iinc (v := v10) X ([(3, .int v10), (0, .ref (ad o 0 0)), (1, .ref (ad o1 0 0)), (2, .int a2)]) 3 (x_dr DX1_takeEvents 38 rfl) rfl (by rw [ev10]; rfl) (by decide) rfl ?_
          refine r_goto X 12 (x_dr DX1_takeEvents 39 rfl) (by decide) ?_
          refine r_norm X [1, 2, 3, 0] ([(0, .ref (ad o 0 0)), (1, .ref (ad o1 0 0)), (2, .int a2), (3, .int v10)]) rfl ?_
          exact ih _ _ h kk
set_option maxRecDepth 10000 in
theorem k1_takeEvents {ad : xAd} {G : xG} {l : Launch} {o o1 : Nat} {a2 : Int32} {σ : xSt} {Q : xSt → Prop} (ho : x_cl o = 1) (ho1 : x_cl o1 = 1) (h : d1_takeEvents o o1 a2 σ Q) : MC ad G l yX1_takeEvents cX1_takeEvents 4 none 1 23 [.ref (ad o 0 0), .ref (ad o1 0 0), .int a2] σ (qV Q) := by
  unfold d1_takeEvents at h
  refine x_MC [(0, .ref (ad o 0 0)), (1, .ref (ad o1 0 0)), (2, .int a2)] (by decide +kernel) rfl (Nat.le_of_ble_eq_true rfl) ?_
  intro E hG hl X
  replace X : FX ad E cX1_takeEvents 4 RX1 none 1 23 := X
  refine r_aload_n X (x_dr DX1_takeEvents 0 rfl) 1 rfl rfl ?_
  refine r_ifnonnull X 5 (x_dr DX1_takeEvents 1 rfl) (by decide) ?_
  refine r_aload_n X (x_dr DX1_takeEvents 3 rfl) 0 rfl rfl ?_
  refine r_iconst (v := 0) X (x_dr DX1_takeEvents 4 rfl) (by decide) ?_
  refine pf_1_41 X ho (x_dr DX1_takeEvents 5 rfl) ?_
  refine r_nmS (fun s1 es1 => ?_)
  replace h := h s1 es1
  refine r_iconst (v := 0) X (x_dr DX1_takeEvents 6 rfl) (by decide) ?_
  refine r_istore_n X ([(3, .int 0), (0, .ref (ad o 0 0)), (1, .ref (ad o1 0 0)), (2, .int a2)]) (x_dr DX1_takeEvents 7 rfl) rfl (by decide) rfl ?_
  refine r_norm X [1, 2, 3, 0] ([(0, .ref (ad o 0 0)), (1, .ref (ad o1 0 0)), (2, .int a2), (3, .int 0)]) rfl ?_
  refine w1_takeEvents_L12 X ho ho1 _ _ _ h (fun s11 h => ?_)
  exact r_vret X rfl (x_dr DX1_takeEvents 40 rfl) ⟨rfl, h⟩
set_option maxRecDepth 10000 in
theorem w1_takeAll_L7 {ad : xAd} {E : xE} (X : FX ad E cX1_takeAll 3 RX1 none 2 46) {o o1 : Nat} (ho : x_cl o = 1) (ho1 : x_cl o1 = 1) {K : xSt → Prop} {Q : xSt → Prop} : ∀ (n : Nat) (a2 : Int32) (σ : xSt), d1_takeAll_L7 o o1 K Q n a2 σ → (∀ (s : xSt), K  s → KK ad E (qV Q) 31 ([(0, .ref (ad o 0 0)), (1, .ref (ad o1 0 0))]) [] s) → KK ad E (qV Q) 7 ([(0, .ref (ad o 0 0)), (1, .ref (ad o1 0 0)), (2, .int a2)]) [] σ := by
  intro n
  induction n with
  | zero => intro a2 σ h kk; exact h.elim
  | succ n ih =>
    intro a2 σ h kk
    rw [d1_takeAll_L7] at h
    refine r_iload_n X (x_dr DX1_takeAll 5 rfl) 2 rfl rfl ?_
    refine r_bipush (v := 12) X (x_dr DX1_takeAll 6 rfl) (by decide) ?_
    refine r_icmp_ge X 31 (x_dr DX1_takeAll 7 rfl) (by decide) (fun c1 => ?_) (fun c1 => ?_)
    · replace h := h.1 c1
      refine r_norm X [0, 1] ([(0, .ref (ad o 0 0)), (1, .ref (ad o1 0 0))]) rfl ?_
      exact kk  _ h
    · replace h := h.2 c1
      refine r_aload_n X (x_dr DX1_takeAll 8 rfl) 0 rfl rfl ?_
      refine gf_1_9 X ho (x_dr DX1_takeAll 9 rfl) ?_
      refine r_iload_n X (x_dr DX1_takeAll 10 rfl) 2 rfl rfl ?_
      refine r_aload_n X (x_dr DX1_takeAll 11 rfl) 1 rfl rfl ?_
      refine gf_1_9 X ho1 (x_dr DX1_takeAll 12 rfl) ?_
      refine r_iload_n X (x_dr DX1_takeAll 13 rfl) 2 rfl rfl ?_
      obtain ⟨b2, h⟩ := h
      refine r_iald X ho1 rfl b2 (x_dr DX1_takeAll 14 rfl) ?_
      obtain ⟨b3, h⟩ := h
      refine r_iast X ho rfl b3 (x_dr DX1_takeAll 15 rfl) ?_
      refine r_nmS (fun s4 es4 => ?_)
      replace h := h s4 es4
      obtain ⟨v5, ev5⟩ : ∃ z : Int32, z = a2 + 1 := ⟨_, rfl⟩
      replace h := h v5 ev5
      refine r_iinc (v := v5) X ([(2, .int v5), (0, .ref (ad o 0 0)), (1, .ref (ad o1 0 0))]) 2 (x_dr DX1_takeAll 16 rfl) rfl (by rw [ev5]; rfl) (by decide) rfl ?_
      refine r_goto X 7 (x_dr DX1_takeAll 17 rfl) (by decide) ?_
      refine r_norm X [1, 2, 0] ([(0, .ref (ad o 0 0)), (1, .ref (ad o1 0 0)), (2, .int v5)]) rfl ?_
      exact ih _ _ h kk
set_option maxRecDepth 10000 in
theorem w1_takeAll_L33 {ad : xAd} {E : xE} (X : FX ad E cX1_takeAll 3 RX1 none 2 46) {o o1 : Nat} (ho : x_cl o = 1) (ho1 : x_cl o1 = 1) {K : xSt → Prop} {Q : xSt → Prop} : ∀ (n : Nat) (a2 : Int32) (σ : xSt), d1_takeAll_L33 o o1 K Q n a2 σ → (∀ (s : xSt), K  s → KK ad E (qV Q) 81 ([(0, .ref (ad o 0 0)), (1, .ref (ad o1 0 0))]) [] s) → KK ad E (qV Q) 33 ([(0, .ref (ad o 0 0)), (1, .ref (ad o1 0 0)), (2, .int a2)]) [] σ := by
  intro n
  induction n with
  | zero => intro a2 σ h kk; exact h.elim
  | succ n ih =>
    intro a2 σ h kk
    rw [d1_takeAll_L33] at h
    refine r_iload_n X (x_dr DX1_takeAll 20 rfl) 2 rfl rfl ?_
    refine r_bipush (v := 8) X (x_dr DX1_takeAll 21 rfl) (by decide) ?_
    refine r_icmp_ge X 81 (x_dr DX1_takeAll 22 rfl) (by decide) (fun c7 => ?_) (fun c7 => ?_)
    · replace h := h.1 c7
      refine r_norm X [0, 1] ([(0, .ref (ad o 0 0)), (1, .ref (ad o1 0 0))]) rfl ?_
      exact kk  _ h
    · replace h := h.2 c7
      refine r_aload_n X (x_dr DX1_takeAll 23 rfl) 0 rfl rfl ?_
      refine gf_1_15 X ho (x_dr DX1_takeAll 24 rfl) ?_
      refine r_iload_n X (x_dr DX1_takeAll 25 rfl) 2 rfl rfl ?_
      refine r_aload_n X (x_dr DX1_takeAll 26 rfl) 1 rfl rfl ?_
      refine gf_1_15 X ho1 (x_dr DX1_takeAll 27 rfl) ?_
      refine r_iload_n X (x_dr DX1_takeAll 28 rfl) 2 rfl rfl ?_
      obtain ⟨b8, h⟩ := h
      refine r_iald X ho1 rfl b8 (x_dr DX1_takeAll 29 rfl) ?_
      obtain ⟨b9, h⟩ := h
      refine r_iast X ho rfl b9 (x_dr DX1_takeAll 30 rfl) ?_
      refine r_nmS (fun s10 es10 => ?_)
      replace h := h s10 es10
      refine r_aload_n X (x_dr DX1_takeAll 31 rfl) 0 rfl rfl ?_
      refine gf_1_18 X ho (x_dr DX1_takeAll 32 rfl) ?_
      refine r_iload_n X (x_dr DX1_takeAll 33 rfl) 2 rfl rfl ?_
      refine r_aload_n X (x_dr DX1_takeAll 34 rfl) 1 rfl rfl ?_
      refine gf_1_18 X ho1 (x_dr DX1_takeAll 35 rfl) ?_
      refine r_iload_n X (x_dr DX1_takeAll 36 rfl) 2 rfl rfl ?_
      obtain ⟨b11, h⟩ := h
      refine r_iald X ho1 rfl b11 (x_dr DX1_takeAll 37 rfl) ?_
      obtain ⟨b12, h⟩ := h
      refine r_iast X ho rfl b12 (x_dr DX1_takeAll 38 rfl) ?_
      refine r_nmS (fun s13 es13 => ?_)
      replace h := h s13 es13
      refine r_aload_n X (x_dr DX1_takeAll 39 rfl) 0 rfl rfl ?_
      refine gf_1_21 X ho (x_dr DX1_takeAll 40 rfl) ?_
      refine r_iload_n X (x_dr DX1_takeAll 41 rfl) 2 rfl rfl ?_
      refine r_aload_n X (x_dr DX1_takeAll 42 rfl) 1 rfl rfl ?_
      refine gf_1_21 X ho1 (x_dr DX1_takeAll 43 rfl) ?_
      refine r_iload_n X (x_dr DX1_takeAll 44 rfl) 2 rfl rfl ?_
      obtain ⟨b14, h⟩ := h
      refine r_iald X ho1 rfl b14 (x_dr DX1_takeAll 45 rfl) ?_
      obtain ⟨b15, h⟩ := h
      refine r_iast X ho rfl b15 (x_dr DX1_takeAll 46 rfl) ?_
      refine r_nmS (fun s16 es16 => ?_)
      replace h := h s16 es16
      obtain ⟨v17, ev17⟩ : ∃ z : Int32, z = a2 + 1 := ⟨_, rfl⟩
      replace h := h v17 ev17
      refine r_iinc (v := v17) X ([(2, .int v17), (0, .ref (ad o 0 0)), (1, .ref (ad o1 0 0))]) 2 (x_dr DX1_takeAll 47 rfl) rfl (by rw [ev17]; rfl) (by decide) rfl ?_
      refine r_goto X 33 (x_dr DX1_takeAll 48 rfl) (by decide) ?_
      refine r_norm X [1, 2, 0] ([(0, .ref (ad o 0 0)), (1, .ref (ad o1 0 0)), (2, .int v17)]) rfl ?_
      exact ih _ _ h kk
set_option maxRecDepth 10000 in
theorem k1_takeAll {ad : xAd} {G : xG} {l : Launch} {o o1 : Nat} {σ : xSt} {Q : xSt → Prop} (ho : x_cl o = 1) (ho1 : x_cl o1 = 1) (h : d1_takeAll o o1 σ Q) : MC ad G l yX1_takeAll cX1_takeAll 3 none 2 46 [.ref (ad o 0 0), .ref (ad o1 0 0)] σ (qV Q) := by
  unfold d1_takeAll at h
  refine x_MC [(0, .ref (ad o 0 0)), (1, .ref (ad o1 0 0))] (by decide +kernel) rfl (Nat.le_of_ble_eq_true rfl) ?_
  intro E hG hl X
  replace X : FX ad E cX1_takeAll 3 RX1 none 2 46 := X
  refine r_aload_n X (x_dr DX1_takeAll 0 rfl) 1 rfl rfl ?_
  refine r_ifnonnull X 5 (x_dr DX1_takeAll 1 rfl) (by decide) ?_
  refine r_iconst (v := 0) X (x_dr DX1_takeAll 3 rfl) (by decide) ?_
  refine r_istore_n X ([(2, .int 0), (0, .ref (ad o 0 0)), (1, .ref (ad o1 0 0))]) (x_dr DX1_takeAll 4 rfl) rfl (by decide) rfl ?_
  refine r_norm X [1, 2, 0] ([(0, .ref (ad o 0 0)), (1, .ref (ad o1 0 0)), (2, .int 0)]) rfl ?_
  refine w1_takeAll_L7 X ho ho1 _ _ _ h (fun s6 h => ?_)
  refine r_iconst (v := 0) X (x_dr DX1_takeAll 18 rfl) (by decide) ?_
  refine r_istore_n X ([(2, .int 0), (0, .ref (ad o 0 0)), (1, .ref (ad o1 0 0))]) (x_dr DX1_takeAll 19 rfl) rfl (by decide) rfl ?_
  refine r_norm X [1, 2, 0] ([(0, .ref (ad o 0 0)), (1, .ref (ad o1 0 0)), (2, .int 0)]) rfl ?_
  refine w1_takeAll_L33 X ho ho1 _ _ _ h (fun s18 h => ?_)
  refine r_aload_n X (x_dr DX1_takeAll 49 rfl) 0 rfl rfl ?_
  refine r_aload_n X (x_dr DX1_takeAll 50 rfl) 1 rfl rfl ?_
  refine gf_1_33 X ho1 (x_dr DX1_takeAll 51 rfl) ?_
  refine pf_1_33 X ho (x_dr DX1_takeAll 52 rfl) ?_
  refine r_nmS (fun s19 es19 => ?_)
  replace h := h s19 es19
  refine r_aload_n X (x_dr DX1_takeAll 53 rfl) 0 rfl rfl ?_
  refine r_aload_n X (x_dr DX1_takeAll 54 rfl) 1 rfl rfl ?_
  refine r_iconst (v := (-1)) X (x_dr DX1_takeAll 55 rfl) (by decide) ?_
  refine cl1_takeEvents X (k1_takeEvents ho ho1 h) ho ml_1_37 ⟨Nat.le_of_ble_eq_true rfl, Nat.le_of_ble_eq_true rfl⟩ (Nat.le_of_ble_eq_true rfl) (x_dr DX1_takeAll 56 rfl) (fun s20 h => ?_)
  exact r_vret X rfl (x_dr DX1_takeAll 57 rfl) ⟨rfl, h⟩
set_option maxRecDepth 10000 in
theorem k1_dropEvents {ad : xAd} {G : xG} {l : Launch} {o : Nat} {a1 : Int32} {σ : xSt} {Q : xSt → Prop} (ho : x_cl o = 1) (h : d1_dropEvents o a1 σ Q) : MC ad G l yX1_dropEvents cX1_dropEvents 2 none 1 21 [.ref (ad o 0 0), .int a1] σ (qV Q) := by
  unfold d1_dropEvents at h
  refine x_MC [(0, .ref (ad o 0 0)), (1, .int a1)] (by decide +kernel) rfl (Nat.le_of_ble_eq_true rfl) ?_
  intro E hG hl X
  replace X : FX ad E cX1_dropEvents 2 RX1 none 1 21 := X
  refine r_aload_n X (x_dr DX1_dropEvents 0 rfl) 0 rfl rfl ?_
  refine r_iconst (v := 0) X (x_dr DX1_dropEvents 1 rfl) (by decide) ?_
  refine r_iload_n X (x_dr DX1_dropEvents 2 rfl) 1 rfl rfl ?_
  refine r_aload_n X (x_dr DX1_dropEvents 3 rfl) 0 rfl rfl ?_
  refine gf_1_41 X ho (x_dr DX1_dropEvents 4 rfl) ?_
  refine r_mmin X ml_1_48 ⟨Nat.le_of_ble_eq_true rfl, Nat.le_of_ble_eq_true rfl⟩ (x_dr DX1_dropEvents 5 rfl) ?_
  refine r_mmax X ml_1_54 ⟨Nat.le_of_ble_eq_true rfl, Nat.le_of_ble_eq_true rfl⟩ (x_dr DX1_dropEvents 6 rfl) ?_
  refine pf_1_41 X ho (x_dr DX1_dropEvents 7 rfl) ?_
  refine r_nmS (fun s1 es1 => ?_)
  replace h := h s1 es1
  exact r_vret X rfl (x_dr DX1_dropEvents 8 rfl) ⟨rfl, h⟩
set_option maxRecDepth 10000 in
theorem k6_isPlace {ad : xAd} {G : xG} {l : Launch} {a0 : Int32} {σ : xSt} {Q : Int32 → xSt → Prop}  (h : d6_isPlace a0 σ Q) : MC ad G l yX6_isPlace cX6_isPlace 1 (some .boolean) 0 0 [.int a0] σ (qZ Q) := by
  unfold d6_isPlace at h
  refine x_MC [(0, .int a0)] (by decide +kernel) rfl (Nat.le_of_ble_eq_true rfl) ?_
  intro E hG hl X
  replace X : FX ad E cX6_isPlace 1 RX6 (some .boolean) 0 0 := X
  refine r_iload_n X (x_dr DX6_isPlace 0 rfl) 0 rfl rfl ?_
  refine r_if_lt X 14 (x_dr DX6_isPlace 1 rfl) (by decide) (fun c1 => ?_) (fun c1 => ?_)
  · replace h := h.1 c1
    refine r_iconst (v := 0) X (x_dr DX6_isPlace 7 rfl) (by decide) ?_
    exact r_zret X rfl (x_dr DX6_isPlace 8 rfl) (Or.inl rfl) ⟨_, rfl, (Or.inl rfl), h⟩
  · replace h := h.2 c1
    refine r_iload_n X (x_dr DX6_isPlace 2 rfl) 0 rfl rfl ?_
    refine r_bipush (v := 12) X (x_dr DX6_isPlace 3 rfl) (by decide) ?_
    refine r_icmp_ge X 14 (x_dr DX6_isPlace 4 rfl) (by decide) (fun c2 => ?_) (fun c2 => ?_)
    · replace h := h.1 c2
      refine r_iconst (v := 0) X (x_dr DX6_isPlace 7 rfl) (by decide) ?_
      exact r_zret X rfl (x_dr DX6_isPlace 8 rfl) (Or.inl rfl) ⟨_, rfl, (Or.inl rfl), h⟩
    · replace h := h.2 c2
      refine r_iconst (v := 1) X (x_dr DX6_isPlace 5 rfl) (by decide) ?_
      refine r_goto X 15 (x_dr DX6_isPlace 6 rfl) (by decide) ?_
      exact r_zret X rfl (x_dr DX6_isPlace 8 rfl) (Or.inr rfl) ⟨_, rfl, (Or.inr rfl), h⟩
set_option maxRecDepth 10000 in
theorem k1_setDamp {ad : xAd} {G : xG} {l : Launch} {o : Nat} {a1 : Int32} {a2 : Int32} {σ : xSt} {Q : xSt → Prop} (ho : x_cl o = 1) (h : d1_setDamp o a1 a2 σ Q) : MC ad G l yX1_setDamp cX1_setDamp 3 none 1 20 [.ref (ad o 0 0), .int a1, .int a2] σ (qV Q) := by
  unfold d1_setDamp at h
  refine x_MC [(0, .ref (ad o 0 0)), (1, .int a1), (2, .int a2)] (by decide +kernel) rfl (Nat.le_of_ble_eq_true rfl) ?_
  intro E hG hl X
  replace X : FX ad E cX1_setDamp 3 RX1 none 1 20 := X
  refine r_iload_n X (x_dr DX1_setDamp 0 rfl) 1 rfl rfl ?_
  refine cl6_isPlace_N X (k6_isPlace h) (x_nm_mem 5 rfl) ⟨Nat.le_of_ble_eq_true rfl, Nat.le_of_ble_eq_true rfl⟩ (Nat.le_of_ble_eq_true rfl) (x_dr DX1_setDamp 1 rfl) (fun v2 s1 zv2 h => ?_)
  refine r_if_eq X 14 (x_dr DX1_setDamp 2 rfl) (by decide) (fun c3 => ?_) (fun c3 => ?_)
  · replace h := h.1 c3
    exact r_vret X rfl (x_dr DX1_setDamp 8 rfl) ⟨rfl, h⟩
  · replace h := h.2 c3
    refine r_aload_n X (x_dr DX1_setDamp 3 rfl) 0 rfl rfl ?_
    refine gf_1_9 X ho (x_dr DX1_setDamp 4 rfl) ?_
    refine r_iload_n X (x_dr DX1_setDamp 5 rfl) 1 rfl rfl ?_
    refine r_iload_n X (x_dr DX1_setDamp 6 rfl) 2 rfl rfl ?_
    obtain ⟨b4, h⟩ := h
    refine r_iast X ho rfl b4 (x_dr DX1_setDamp 7 rfl) ?_
    refine r_nmS (fun s5 es5 => ?_)
    replace h := h s5 es5
    exact r_vret X rfl (x_dr DX1_setDamp 8 rfl) ⟨rfl, h⟩
set_option maxRecDepth 10000 in
theorem k1_dampAt {ad : xAd} {G : xG} {l : Launch} {o : Nat} {a1 : Int32} {σ : xSt} {Q : Int32 → xSt → Prop} (ho : x_cl o = 1) (h : d1_dampAt o a1 σ Q) : MC ad G l yX1_dampAt cX1_dampAt 2 (some .int) 1 20 [.ref (ad o 0 0), .int a1] σ (qI Q) := by
  unfold d1_dampAt at h
  refine x_MC [(0, .ref (ad o 0 0)), (1, .int a1)] (by decide +kernel) rfl (Nat.le_of_ble_eq_true rfl) ?_
  intro E hG hl X
  replace X : FX ad E cX1_dampAt 2 RX1 (some .int) 1 20 := X
  refine r_iload_n X (x_dr DX1_dampAt 0 rfl) 1 rfl rfl ?_
  refine cl6_isPlace_N X (k6_isPlace h) (x_nm_mem 5 rfl) ⟨Nat.le_of_ble_eq_true rfl, Nat.le_of_ble_eq_true rfl⟩ (Nat.le_of_ble_eq_true rfl) (x_dr DX1_dampAt 1 rfl) (fun v2 s1 zv2 h => ?_)
  refine r_if_eq X 16 (x_dr DX1_dampAt 2 rfl) (by decide) (fun c3 => ?_) (fun c3 => ?_)
  · replace h := h.1 c3
    refine r_iconst (v := 0) X (x_dr DX1_dampAt 8 rfl) (by decide) ?_
    exact r_iret X rfl (x_dr DX1_dampAt 9 rfl) ⟨_, rfl, h⟩
  · replace h := h.2 c3
    refine r_aload_n X (x_dr DX1_dampAt 3 rfl) 0 rfl rfl ?_
    refine gf_1_9 X ho (x_dr DX1_dampAt 4 rfl) ?_
    refine r_iload_n X (x_dr DX1_dampAt 5 rfl) 1 rfl rfl ?_
    obtain ⟨b4, h⟩ := h
    refine r_iald X ho rfl b4 (x_dr DX1_dampAt 6 rfl) ?_
    refine r_goto X 17 (x_dr DX1_dampAt 7 rfl) (by decide) ?_
    exact r_iret X rfl (x_dr DX1_dampAt 9 rfl) ⟨_, rfl, h⟩
set_option maxRecDepth 10000 in
theorem k1_dropMembers {ad : xAd} {G : xG} {l : Launch} {o : Nat} {σ : xSt} {Q : xSt → Prop} (ho : x_cl o = 1) (h : d1_dropMembers o σ Q) : MC ad G l yX1_dropMembers cX1_dropMembers 1 none 0 0 [.ref (ad o 0 0)] σ (qV Q) := by
  unfold d1_dropMembers at h
  refine x_MC [(0, .ref (ad o 0 0))] (by decide +kernel) rfl (Nat.le_of_ble_eq_true rfl) ?_
  intro E hG hl X
  replace X : FX ad E cX1_dropMembers 1 RX1 none 0 0 := X
  refine r_aload_n X (x_dr DX1_dropMembers 0 rfl) 0 rfl rfl ?_
  refine r_iconst (v := 0) X (x_dr DX1_dropMembers 1 rfl) (by decide) ?_
  refine pf_1_33 X ho (x_dr DX1_dropMembers 2 rfl) ?_
  refine r_nmS (fun s1 es1 => ?_)
  replace h := h s1 es1
  exact r_vret X rfl (x_dr DX1_dropMembers 3 rfl) ⟨rfl, h⟩
set_option maxRecDepth 10000 in
theorem k1_addMember {ad : xAd} {G : xG} {l : Launch} {o : Nat} {a1 : Int32} {a2 : Int32} {a3 : Int32} {σ : xSt} {Q : xSt → Prop} (ho : x_cl o = 1) (h : d1_addMember o a1 a2 a3 σ Q) : MC ad G l yX1_addMember cX1_addMember 4 none 0 0 [.ref (ad o 0 0), .int a1, .int a2, .int a3] σ (qV Q) := by
  unfold d1_addMember at h
  refine x_MC [(0, .ref (ad o 0 0)), (1, .int a1), (2, .int a2), (3, .int a3)] (by decide +kernel) rfl (Nat.le_of_ble_eq_true rfl) ?_
  intro E hG hl X
  replace X : FX ad E cX1_addMember 4 RX1 none 0 0 := X
  refine r_aload_n X (x_dr DX1_addMember 0 rfl) 0 rfl rfl ?_
  refine gf_1_33 X ho (x_dr DX1_addMember 1 rfl) ?_
  refine r_if_lt X 16 (x_dr DX1_addMember 2 rfl) (by decide) (fun c1 => ?_) (fun c1 => ?_)
  · replace h := h.1 c1
    exact r_vret X rfl (x_dr DX1_addMember 7 rfl) ⟨rfl, h⟩
  · replace h := h.2 c1
    refine r_aload_n X (x_dr DX1_addMember 3 rfl) 0 rfl rfl ?_
    refine gf_1_33 X ho (x_dr DX1_addMember 4 rfl) ?_
    refine r_bipush (v := 8) X (x_dr DX1_addMember 5 rfl) (by decide) ?_
    refine r_icmp_lt X 17 (x_dr DX1_addMember 6 rfl) (by decide) (fun c2 => ?_) (fun c2 => ?_)
    · replace h := h.1 c2
      refine r_aload_n X (x_dr DX1_addMember 8 rfl) 0 rfl rfl ?_
      refine gf_1_15 X ho (x_dr DX1_addMember 9 rfl) ?_
      refine r_aload_n X (x_dr DX1_addMember 10 rfl) 0 rfl rfl ?_
      refine gf_1_33 X ho (x_dr DX1_addMember 11 rfl) ?_
      refine r_iload_n X (x_dr DX1_addMember 12 rfl) 1 rfl rfl ?_
      obtain ⟨b3, h⟩ := h
      refine r_iast X ho rfl b3 (x_dr DX1_addMember 13 rfl) ?_
      refine r_nmS (fun s4 es4 => ?_)
      replace h := h s4 es4
      refine r_aload_n X (x_dr DX1_addMember 14 rfl) 0 rfl rfl ?_
      refine gf_1_18 X ho (x_dr DX1_addMember 15 rfl) ?_
      refine r_aload_n X (x_dr DX1_addMember 16 rfl) 0 rfl rfl ?_
      refine gf_1_33 X ho (x_dr DX1_addMember 17 rfl) ?_
      refine r_iload_n X (x_dr DX1_addMember 18 rfl) 2 rfl rfl ?_
      obtain ⟨b5, h⟩ := h
      refine r_iast X ho rfl b5 (x_dr DX1_addMember 19 rfl) ?_
      refine r_nmS (fun s6 es6 => ?_)
      replace h := h s6 es6
      refine r_aload_n X (x_dr DX1_addMember 20 rfl) 0 rfl rfl ?_
      refine gf_1_21 X ho (x_dr DX1_addMember 21 rfl) ?_
      refine r_aload_n X (x_dr DX1_addMember 22 rfl) 0 rfl rfl ?_
      refine gf_1_33 X ho (x_dr DX1_addMember 23 rfl) ?_
      refine r_iload_n X (x_dr DX1_addMember 24 rfl) 3 rfl rfl ?_
      obtain ⟨b7, h⟩ := h
      refine r_iast X ho rfl b7 (x_dr DX1_addMember 25 rfl) ?_
      refine r_nmS (fun s8 es8 => ?_)
      replace h := h s8 es8
      refine r_aload_n X (x_dr DX1_addMember 26 rfl) 0 rfl rfl ?_
      refine r_dup X (x_dr DX1_addMember 27 rfl) rfl ?_
      refine gf_1_33 X ho (x_dr DX1_addMember 28 rfl) ?_
      refine r_iconst (v := 1) X (x_dr DX1_addMember 29 rfl) (by decide) ?_
      refine r_iadd X (x_dr DX1_addMember 30 rfl) ?_
      refine pf_1_33 X ho (x_dr DX1_addMember 31 rfl) ?_
      refine r_nmS (fun s9 es9 => ?_)
      replace h := h s9 es9
      exact r_vret X rfl (x_dr DX1_addMember 32 rfl) ⟨rfl, h⟩
    · replace h := h.2 c2
      exact r_vret X rfl (x_dr DX1_addMember 7 rfl) ⟨rfl, h⟩
set_option maxRecDepth 10000 in
theorem k1_hasMember {ad : xAd} {G : xG} {l : Launch} {o : Nat} {a1 : Int32} {σ : xSt} {Q : Int32 → xSt → Prop} (ho : x_cl o = 1) (h : d1_hasMember o a1 σ Q) : MC ad G l yX1_hasMember cX1_hasMember 2 (some .boolean) 0 0 [.ref (ad o 0 0), .int a1] σ (qZ Q) := by
  unfold d1_hasMember at h
  refine x_MC [(0, .ref (ad o 0 0)), (1, .int a1)] (by decide +kernel) rfl (Nat.le_of_ble_eq_true rfl) ?_
  intro E hG hl X
  replace X : FX ad E cX1_hasMember 2 RX1 (some .boolean) 0 0 := X
  refine r_iload_n X (x_dr DX1_hasMember 0 rfl) 1 rfl rfl ?_
  refine r_if_lt X 22 (x_dr DX1_hasMember 1 rfl) (by decide) (fun c1 => ?_) (fun c1 => ?_)
  · replace h := h.1 c1
    refine r_iconst (v := 0) X (x_dr DX1_hasMember 11 rfl) (by decide) ?_
    exact r_zret X rfl (x_dr DX1_hasMember 12 rfl) (Or.inl rfl) ⟨_, rfl, (Or.inl rfl), h⟩
  · replace h := h.2 c1
    refine r_iload_n X (x_dr DX1_hasMember 2 rfl) 1 rfl rfl ?_
    refine r_aload_n X (x_dr DX1_hasMember 3 rfl) 0 rfl rfl ?_
    refine gf_1_33 X ho (x_dr DX1_hasMember 4 rfl) ?_
    refine r_icmp_ge X 22 (x_dr DX1_hasMember 5 rfl) (by decide) (fun c2 => ?_) (fun c2 => ?_)
    · replace h := h.1 c2
      refine r_iconst (v := 0) X (x_dr DX1_hasMember 11 rfl) (by decide) ?_
      exact r_zret X rfl (x_dr DX1_hasMember 12 rfl) (Or.inl rfl) ⟨_, rfl, (Or.inl rfl), h⟩
    · replace h := h.2 c2
      refine r_iload_n X (x_dr DX1_hasMember 6 rfl) 1 rfl rfl ?_
      refine r_bipush (v := 8) X (x_dr DX1_hasMember 7 rfl) (by decide) ?_
      refine r_icmp_ge X 22 (x_dr DX1_hasMember 8 rfl) (by decide) (fun c3 => ?_) (fun c3 => ?_)
      · replace h := h.1 c3
        refine r_iconst (v := 0) X (x_dr DX1_hasMember 11 rfl) (by decide) ?_
        exact r_zret X rfl (x_dr DX1_hasMember 12 rfl) (Or.inl rfl) ⟨_, rfl, (Or.inl rfl), h⟩
      · replace h := h.2 c3
        refine r_iconst (v := 1) X (x_dr DX1_hasMember 9 rfl) (by decide) ?_
        refine r_goto X 23 (x_dr DX1_hasMember 10 rfl) (by decide) ?_
        exact r_zret X rfl (x_dr DX1_hasMember 12 rfl) (Or.inr rfl) ⟨_, rfl, (Or.inr rfl), h⟩
set_option maxRecDepth 10000 in
theorem k1_sortOf {ad : xAd} {G : xG} {l : Launch} {o : Nat} {a1 : Int32} {σ : xSt} {Q : Int32 → xSt → Prop} (ho : x_cl o = 1) (h : d1_sortOf o a1 σ Q) : MC ad G l yX1_sortOf cX1_sortOf 2 (some .int) 1 21 [.ref (ad o 0 0), .int a1] σ (qI Q) := by
  unfold d1_sortOf at h
  refine x_MC [(0, .ref (ad o 0 0)), (1, .int a1)] (by decide +kernel) rfl (Nat.le_of_ble_eq_true rfl) ?_
  intro E hG hl X
  replace X : FX ad E cX1_sortOf 2 RX1 (some .int) 1 21 := X
  refine r_aload_n X (x_dr DX1_sortOf 0 rfl) 0 rfl rfl ?_
  refine r_iload_n X (x_dr DX1_sortOf 1 rfl) 1 rfl rfl ?_
  refine cl1_hasMember X (k1_hasMember ho h) ho ml_1_61 ⟨Nat.le_of_ble_eq_true rfl, Nat.le_of_ble_eq_true rfl⟩ (Nat.le_of_ble_eq_true rfl) (x_dr DX1_sortOf 2 rfl) (fun v2 s1 zv2 h => ?_)
  refine r_if_eq X 17 (x_dr DX1_sortOf 3 rfl) (by decide) (fun c3 => ?_) (fun c3 => ?_)
  · replace h := h.1 c3
    refine r_iconst (v := (-1)) X (x_dr DX1_sortOf 9 rfl) (by decide) ?_
    exact r_iret X rfl (x_dr DX1_sortOf 10 rfl) ⟨_, rfl, h⟩
  · replace h := h.2 c3
    refine r_aload_n X (x_dr DX1_sortOf 4 rfl) 0 rfl rfl ?_
    refine gf_1_15 X ho (x_dr DX1_sortOf 5 rfl) ?_
    refine r_iload_n X (x_dr DX1_sortOf 6 rfl) 1 rfl rfl ?_
    obtain ⟨b4, h⟩ := h
    refine r_iald X ho rfl b4 (x_dr DX1_sortOf 7 rfl) ?_
    refine r_goto X 18 (x_dr DX1_sortOf 8 rfl) (by decide) ?_
    exact r_iret X rfl (x_dr DX1_sortOf 10 rfl) ⟨_, rfl, h⟩
set_option maxRecDepth 10000 in
theorem k1_setSort {ad : xAd} {G : xG} {l : Launch} {o : Nat} {a1 : Int32} {a2 : Int32} {σ : xSt} {Q : xSt → Prop} (ho : x_cl o = 1) (h : d1_setSort o a1 a2 σ Q) : MC ad G l yX1_setSort cX1_setSort 3 none 1 21 [.ref (ad o 0 0), .int a1, .int a2] σ (qV Q) := by
  unfold d1_setSort at h
  refine x_MC [(0, .ref (ad o 0 0)), (1, .int a1), (2, .int a2)] (by decide +kernel) rfl (Nat.le_of_ble_eq_true rfl) ?_
  intro E hG hl X
  replace X : FX ad E cX1_setSort 3 RX1 none 1 21 := X
  refine r_aload_n X (x_dr DX1_setSort 0 rfl) 0 rfl rfl ?_
  refine r_iload_n X (x_dr DX1_setSort 1 rfl) 1 rfl rfl ?_
  refine cl1_hasMember X (k1_hasMember ho h) ho ml_1_61 ⟨Nat.le_of_ble_eq_true rfl, Nat.le_of_ble_eq_true rfl⟩ (Nat.le_of_ble_eq_true rfl) (x_dr DX1_setSort 2 rfl) (fun v2 s1 zv2 h => ?_)
  refine r_if_eq X 15 (x_dr DX1_setSort 3 rfl) (by decide) (fun c3 => ?_) (fun c3 => ?_)
  · replace h := h.1 c3
    exact r_vret X rfl (x_dr DX1_setSort 9 rfl) ⟨rfl, h⟩
  · replace h := h.2 c3
    refine r_aload_n X (x_dr DX1_setSort 4 rfl) 0 rfl rfl ?_
    refine gf_1_15 X ho (x_dr DX1_setSort 5 rfl) ?_
    refine r_iload_n X (x_dr DX1_setSort 6 rfl) 1 rfl rfl ?_
    refine r_iload_n X (x_dr DX1_setSort 7 rfl) 2 rfl rfl ?_
    obtain ⟨b4, h⟩ := h
    refine r_iast X ho rfl b4 (x_dr DX1_setSort 8 rfl) ?_
    refine r_nmS (fun s5 es5 => ?_)
    replace h := h s5 es5
    exact r_vret X rfl (x_dr DX1_setSort 9 rfl) ⟨rfl, h⟩
set_option maxRecDepth 10000 in
theorem k1_placeOf {ad : xAd} {G : xG} {l : Launch} {o : Nat} {a1 : Int32} {σ : xSt} {Q : Int32 → xSt → Prop} (ho : x_cl o = 1) (h : d1_placeOf o a1 σ Q) : MC ad G l yX1_placeOf cX1_placeOf 2 (some .int) 1 21 [.ref (ad o 0 0), .int a1] σ (qI Q) := by
  unfold d1_placeOf at h
  refine x_MC [(0, .ref (ad o 0 0)), (1, .int a1)] (by decide +kernel) rfl (Nat.le_of_ble_eq_true rfl) ?_
  intro E hG hl X
  replace X : FX ad E cX1_placeOf 2 RX1 (some .int) 1 21 := X
  refine r_aload_n X (x_dr DX1_placeOf 0 rfl) 0 rfl rfl ?_
  refine r_iload_n X (x_dr DX1_placeOf 1 rfl) 1 rfl rfl ?_
  refine cl1_hasMember X (k1_hasMember ho h) ho ml_1_61 ⟨Nat.le_of_ble_eq_true rfl, Nat.le_of_ble_eq_true rfl⟩ (Nat.le_of_ble_eq_true rfl) (x_dr DX1_placeOf 2 rfl) (fun v2 s1 zv2 h => ?_)
  refine r_if_eq X 17 (x_dr DX1_placeOf 3 rfl) (by decide) (fun c3 => ?_) (fun c3 => ?_)
  · replace h := h.1 c3
    refine r_iconst (v := (-1)) X (x_dr DX1_placeOf 9 rfl) (by decide) ?_
    exact r_iret X rfl (x_dr DX1_placeOf 10 rfl) ⟨_, rfl, h⟩
  · replace h := h.2 c3
    refine r_aload_n X (x_dr DX1_placeOf 4 rfl) 0 rfl rfl ?_
    refine gf_1_18 X ho (x_dr DX1_placeOf 5 rfl) ?_
    refine r_iload_n X (x_dr DX1_placeOf 6 rfl) 1 rfl rfl ?_
    obtain ⟨b4, h⟩ := h
    refine r_iald X ho rfl b4 (x_dr DX1_placeOf 7 rfl) ?_
    refine r_goto X 18 (x_dr DX1_placeOf 8 rfl) (by decide) ?_
    exact r_iret X rfl (x_dr DX1_placeOf 10 rfl) ⟨_, rfl, h⟩
set_option maxRecDepth 10000 in
theorem k1_setPlace {ad : xAd} {G : xG} {l : Launch} {o : Nat} {a1 : Int32} {a2 : Int32} {σ : xSt} {Q : xSt → Prop} (ho : x_cl o = 1) (h : d1_setPlace o a1 a2 σ Q) : MC ad G l yX1_setPlace cX1_setPlace 3 none 1 21 [.ref (ad o 0 0), .int a1, .int a2] σ (qV Q) := by
  unfold d1_setPlace at h
  refine x_MC [(0, .ref (ad o 0 0)), (1, .int a1), (2, .int a2)] (by decide +kernel) rfl (Nat.le_of_ble_eq_true rfl) ?_
  intro E hG hl X
  replace X : FX ad E cX1_setPlace 3 RX1 none 1 21 := X
  refine r_aload_n X (x_dr DX1_setPlace 0 rfl) 0 rfl rfl ?_
  refine r_iload_n X (x_dr DX1_setPlace 1 rfl) 1 rfl rfl ?_
  refine cl1_hasMember X (k1_hasMember ho h) ho ml_1_61 ⟨Nat.le_of_ble_eq_true rfl, Nat.le_of_ble_eq_true rfl⟩ (Nat.le_of_ble_eq_true rfl) (x_dr DX1_setPlace 2 rfl) (fun v2 s1 zv2 h => ?_)
  refine r_if_eq X 15 (x_dr DX1_setPlace 3 rfl) (by decide) (fun c3 => ?_) (fun c3 => ?_)
  · replace h := h.1 c3
    exact r_vret X rfl (x_dr DX1_setPlace 9 rfl) ⟨rfl, h⟩
  · replace h := h.2 c3
    refine r_aload_n X (x_dr DX1_setPlace 4 rfl) 0 rfl rfl ?_
    refine gf_1_18 X ho (x_dr DX1_setPlace 5 rfl) ?_
    refine r_iload_n X (x_dr DX1_setPlace 6 rfl) 1 rfl rfl ?_
    refine r_iload_n X (x_dr DX1_setPlace 7 rfl) 2 rfl rfl ?_
    obtain ⟨b4, h⟩ := h
    refine r_iast X ho rfl b4 (x_dr DX1_setPlace 8 rfl) ?_
    refine r_nmS (fun s5 es5 => ?_)
    replace h := h s5 es5
    exact r_vret X rfl (x_dr DX1_setPlace 9 rfl) ⟨rfl, h⟩
set_option maxRecDepth 10000 in
theorem k1_uprightOf {ad : xAd} {G : xG} {l : Launch} {o : Nat} {a1 : Int32} {σ : xSt} {Q : Int32 → xSt → Prop} (ho : x_cl o = 1) (h : d1_uprightOf o a1 σ Q) : MC ad G l yX1_uprightOf cX1_uprightOf 2 (some .int) 1 21 [.ref (ad o 0 0), .int a1] σ (qI Q) := by
  unfold d1_uprightOf at h
  refine x_MC [(0, .ref (ad o 0 0)), (1, .int a1)] (by decide +kernel) rfl (Nat.le_of_ble_eq_true rfl) ?_
  intro E hG hl X
  replace X : FX ad E cX1_uprightOf 2 RX1 (some .int) 1 21 := X
  refine r_aload_n X (x_dr DX1_uprightOf 0 rfl) 0 rfl rfl ?_
  refine r_iload_n X (x_dr DX1_uprightOf 1 rfl) 1 rfl rfl ?_
  refine cl1_hasMember X (k1_hasMember ho h) ho ml_1_61 ⟨Nat.le_of_ble_eq_true rfl, Nat.le_of_ble_eq_true rfl⟩ (Nat.le_of_ble_eq_true rfl) (x_dr DX1_uprightOf 2 rfl) (fun v2 s1 zv2 h => ?_)
  refine r_if_eq X 17 (x_dr DX1_uprightOf 3 rfl) (by decide) (fun c3 => ?_) (fun c3 => ?_)
  · replace h := h.1 c3
    refine r_iconst (v := 0) X (x_dr DX1_uprightOf 9 rfl) (by decide) ?_
    exact r_iret X rfl (x_dr DX1_uprightOf 10 rfl) ⟨_, rfl, h⟩
  · replace h := h.2 c3
    refine r_aload_n X (x_dr DX1_uprightOf 4 rfl) 0 rfl rfl ?_
    refine gf_1_21 X ho (x_dr DX1_uprightOf 5 rfl) ?_
    refine r_iload_n X (x_dr DX1_uprightOf 6 rfl) 1 rfl rfl ?_
    obtain ⟨b4, h⟩ := h
    refine r_iald X ho rfl b4 (x_dr DX1_uprightOf 7 rfl) ?_
    refine r_goto X 18 (x_dr DX1_uprightOf 8 rfl) (by decide) ?_
    exact r_iret X rfl (x_dr DX1_uprightOf 10 rfl) ⟨_, rfl, h⟩
set_option maxRecDepth 10000 in
theorem w2_begin_L2 {ad : xAd} {E : xE} (X : FX ad E cX2_begin 3 RX2 none 1 21) {o o1 : Nat} (ho : x_cl o = 2) (ho1 : x_cl o1 = 1) {K : xSt → Prop} {Q : xSt → Prop} : ∀ (n : Nat) (a2 : Int32) (σ : xSt), d2_begin_L2 o o1 K Q n a2 σ → (∀ (s : xSt), K  s → KK ad E (qV Q) 26 ([(0, .ref (ad o 0 0)), (1, .ref (ad o1 0 0))]) [] s) → KK ad E (qV Q) 2 ([(0, .ref (ad o 0 0)), (1, .ref (ad o1 0 0)), (2, .int a2)]) [] σ := by
  intro n
  induction n with
  | zero => intro a2 σ h kk; exact h.elim
  | succ n ih =>
    intro a2 σ h kk
    rw [d2_begin_L2] at h
    refine r_iload_n X (x_dr DX2_begin 2 rfl) 2 rfl rfl ?_
    refine r_bipush (v := 12) X (x_dr DX2_begin 3 rfl) (by decide) ?_
    refine r_icmp_ge X 26 (x_dr DX2_begin 4 rfl) (by decide) (fun c1 => ?_) (fun c1 => ?_)
    · replace h := h.1 c1
      refine r_norm X [0, 1] ([(0, .ref (ad o 0 0)), (1, .ref (ad o1 0 0))]) rfl ?_
      exact kk  _ h
    · replace h := h.2 c1
      refine r_aload_n X (x_dr DX2_begin 5 rfl) 0 rfl rfl ?_
      refine gf_2_9 X ho (x_dr DX2_begin 6 rfl) ?_
      refine r_iload_n X (x_dr DX2_begin 7 rfl) 2 rfl rfl ?_
      refine r_aload_n X (x_dr DX2_begin 8 rfl) 1 rfl rfl ?_
      refine gf_2_87 X ho1 (x_dr DX2_begin 9 rfl) ?_
      refine r_iload_n X (x_dr DX2_begin 10 rfl) 2 rfl rfl ?_
      obtain ⟨b2, h⟩ := h
      refine r_iald X ho1 rfl b2 (x_dr DX2_begin 11 rfl) ?_
      obtain ⟨b3, h⟩ := h
      refine r_iast X ho rfl b3 (x_dr DX2_begin 12 rfl) ?_
      refine r_nmS (fun s4 es4 => ?_)
      replace h := h s4 es4
      obtain ⟨v5, ev5⟩ : ∃ z : Int32, z = a2 + 1 := ⟨_, rfl⟩
      replace h := h v5 ev5
      refine r_iinc (v := v5) X ([(2, .int v5), (0, .ref (ad o 0 0)), (1, .ref (ad o1 0 0))]) 2 (x_dr DX2_begin 13 rfl) rfl (by rw [ev5]; rfl) (by decide) rfl ?_
      refine r_goto X 2 (x_dr DX2_begin 14 rfl) (by decide) ?_
      refine r_norm X [1, 2, 0] ([(0, .ref (ad o 0 0)), (1, .ref (ad o1 0 0)), (2, .int v5)]) rfl ?_
      exact ih _ _ h kk
set_option maxRecDepth 10000 in
theorem w2_begin_L50 {ad : xAd} {E : xE} (X : FX ad E cX2_begin 3 RX2 none 1 21) {o o1 : Nat} (ho : x_cl o = 2) (ho1 : x_cl o1 = 1) {K : xSt → Prop} {Q : xSt → Prop} : ∀ (n : Nat) (a2 : Int32) (σ : xSt), d2_begin_L50 o o1 K Q n a2 σ → (∀ (s : xSt), K  s → KK ad E (qV Q) 114 ([]) [] s) → KK ad E (qV Q) 50 ([(0, .ref (ad o 0 0)), (1, .ref (ad o1 0 0)), (2, .int a2)]) [] σ := by
  intro n
  induction n with
  | zero => intro a2 σ h kk; exact h.elim
  | succ n ih =>
    intro a2 σ h kk
    rw [d2_begin_L50] at h
    refine r_iload_n X (x_dr DX2_begin 28 rfl) 2 rfl rfl ?_
    refine r_aload_n X (x_dr DX2_begin 29 rfl) 0 rfl rfl ?_
    refine gf_2_103 X ho (x_dr DX2_begin 30 rfl) ?_
    refine r_icmp_ge X 114 (x_dr DX2_begin 31 rfl) (by decide) (fun c9 => ?_) (fun c9 => ?_)
    · replace h := h.1 c9
      refine r_norm X [] ([]) rfl ?_
      exact kk  _ h
    · replace h := h.2 c9
      refine r_aload_n X (x_dr DX2_begin 32 rfl) 0 rfl rfl ?_
      refine gf_2_18 X ho (x_dr DX2_begin 33 rfl) ?_
      refine r_iload_n X (x_dr DX2_begin 34 rfl) 2 rfl rfl ?_
      refine r_aload_n X (x_dr DX2_begin 35 rfl) 1 rfl rfl ?_
      refine gf_2_107 X ho1 (x_dr DX2_begin 36 rfl) ?_
      refine r_iload_n X (x_dr DX2_begin 37 rfl) 2 rfl rfl ?_
      obtain ⟨b10, h⟩ := h
      refine r_iald X ho1 rfl b10 (x_dr DX2_begin 38 rfl) ?_
      obtain ⟨b11, h⟩ := h
      refine r_iast X ho rfl b11 (x_dr DX2_begin 39 rfl) ?_
      refine r_nmS (fun s12 es12 => ?_)
      replace h := h s12 es12
      refine r_aload_n X (x_dr DX2_begin 40 rfl) 0 rfl rfl ?_
      refine gf_2_21 X ho (x_dr DX2_begin 41 rfl) ?_
      refine r_iload_n X (x_dr DX2_begin 42 rfl) 2 rfl rfl ?_
      refine r_aload_n X (x_dr DX2_begin 43 rfl) 1 rfl rfl ?_
      refine gf_2_108 X ho1 (x_dr DX2_begin 44 rfl) ?_
      refine r_iload_n X (x_dr DX2_begin 45 rfl) 2 rfl rfl ?_
      obtain ⟨b13, h⟩ := h
      refine r_iald X ho1 rfl b13 (x_dr DX2_begin 46 rfl) ?_
      obtain ⟨b14, h⟩ := h
      refine r_iast X ho rfl b14 (x_dr DX2_begin 47 rfl) ?_
      refine r_nmS (fun s15 es15 => ?_)
      replace h := h s15 es15
      refine r_aload_n X (x_dr DX2_begin 48 rfl) 0 rfl rfl ?_
      refine gf_2_24 X ho (x_dr DX2_begin 49 rfl) ?_
      refine r_iload_n X (x_dr DX2_begin 50 rfl) 2 rfl rfl ?_
      refine r_aload_n X (x_dr DX2_begin 51 rfl) 1 rfl rfl ?_
      refine gf_2_109 X ho1 (x_dr DX2_begin 52 rfl) ?_
      refine r_iload_n X (x_dr DX2_begin 53 rfl) 2 rfl rfl ?_
      obtain ⟨b16, h⟩ := h
      refine r_iald X ho1 rfl b16 (x_dr DX2_begin 54 rfl) ?_
      obtain ⟨b17, h⟩ := h
      refine r_iast X ho rfl b17 (x_dr DX2_begin 55 rfl) ?_
      refine r_nmS (fun s18 es18 => ?_)
      replace h := h s18 es18
      refine r_aload_n X (x_dr DX2_begin 56 rfl) 0 rfl rfl ?_
      refine gf_2_27 X ho (x_dr DX2_begin 57 rfl) ?_
      refine r_iload_n X (x_dr DX2_begin 58 rfl) 2 rfl rfl ?_
      refine r_iconst (v := 0) X (x_dr DX2_begin 59 rfl) (by decide) ?_
      obtain ⟨b19, h⟩ := h
      refine r_iast X ho rfl b19 (x_dr DX2_begin 60 rfl) ?_
      refine r_nmS (fun s20 es20 => ?_)
      replace h := h s20 es20
      refine r_aload_n X (x_dr DX2_begin 61 rfl) 0 rfl rfl ?_
      refine gf_2_34 X ho (x_dr DX2_begin 62 rfl) ?_
      refine r_iload_n X (x_dr DX2_begin 63 rfl) 2 rfl rfl ?_
      refine r_iconst (v := 0) X (x_dr DX2_begin 64 rfl) (by decide) ?_
      obtain ⟨b21, h⟩ := h
      refine r_iast X ho rfl b21 (x_dr DX2_begin 65 rfl) ?_
      refine r_nmS (fun s22 es22 => ?_)
      replace h := h s22 es22
      obtain ⟨v23, ev23⟩ : ∃ z : Int32, z = a2 + 1 := ⟨_, rfl⟩
      replace h := h v23 ev23
      refine r_iinc (v := v23) X ([(2, .int v23), (0, .ref (ad o 0 0)), (1, .ref (ad o1 0 0))]) 2 (x_dr DX2_begin 66 rfl) rfl (by rw [ev23]; rfl) (by decide) rfl ?_
      refine r_goto X 50 (x_dr DX2_begin 67 rfl) (by decide) ?_
      refine r_norm X [1, 2, 0] ([(0, .ref (ad o 0 0)), (1, .ref (ad o1 0 0)), (2, .int v23)]) rfl ?_
      exact ih _ _ h kk
set_option maxRecDepth 10000 in
theorem k2_begin {ad : xAd} {G : xG} {l : Launch} {o o1 : Nat} {σ : xSt} {Q : xSt → Prop} (ho : x_cl o = 2) (ho1 : x_cl o1 = 1) (h : d2_begin o o1 σ Q) : MC ad G l yX2_begin cX2_begin 3 none 1 21 [.ref (ad o 0 0), .ref (ad o1 0 0)] σ (qV Q) := by
  unfold d2_begin at h
  refine x_MC [(0, .ref (ad o 0 0)), (1, .ref (ad o1 0 0))] (by decide +kernel) rfl (Nat.le_of_ble_eq_true rfl) ?_
  intro E hG hl X
  replace X : FX ad E cX2_begin 3 RX2 none 1 21 := X
  refine r_iconst (v := 0) X (x_dr DX2_begin 0 rfl) (by decide) ?_
  refine r_istore_n X ([(2, .int 0), (0, .ref (ad o 0 0)), (1, .ref (ad o1 0 0))]) (x_dr DX2_begin 1 rfl) rfl (by decide) rfl ?_
  refine r_norm X [1, 2, 0] ([(0, .ref (ad o 0 0)), (1, .ref (ad o1 0 0)), (2, .int 0)]) rfl ?_
  refine w2_begin_L2 X ho ho1 _ _ _ h (fun s6 h => ?_)
  refine r_aload_n X (x_dr DX2_begin 15 rfl) 0 rfl rfl ?_
  refine r_iconst (v := 0) X (x_dr DX2_begin 16 rfl) (by decide) ?_
  refine r_aload_n X (x_dr DX2_begin 17 rfl) 1 rfl rfl ?_
  refine gf_2_90 X ho1 (x_dr DX2_begin 18 rfl) ?_
  refine r_bipush (v := 8) X (x_dr DX2_begin 19 rfl) (by decide) ?_
  refine r_mmin X ml_2_94 ⟨Nat.le_of_ble_eq_true rfl, Nat.le_of_ble_eq_true rfl⟩ (x_dr DX2_begin 20 rfl) ?_
  refine r_mmax X ml_2_100 ⟨Nat.le_of_ble_eq_true rfl, Nat.le_of_ble_eq_true rfl⟩ (x_dr DX2_begin 21 rfl) ?_
  refine pf_2_103 X ho (x_dr DX2_begin 22 rfl) ?_
  refine r_nmS (fun s7 es7 => ?_)
  replace h := h s7 es7
  refine r_aload_n X (x_dr DX2_begin 23 rfl) 0 rfl rfl ?_
  refine r_iconst (v := 0) X (x_dr DX2_begin 24 rfl) (by decide) ?_
  refine pf_2_104 X ho (x_dr DX2_begin 25 rfl) ?_
  refine r_nmS (fun s8 es8 => ?_)
  replace h := h s8 es8
  refine r_iconst (v := 0) X (x_dr DX2_begin 26 rfl) (by decide) ?_
  refine r_istore_n X ([(2, .int 0), (0, .ref (ad o 0 0)), (1, .ref (ad o1 0 0))]) (x_dr DX2_begin 27 rfl) rfl (by decide) rfl ?_
  refine r_norm X [1, 2, 0] ([(0, .ref (ad o 0 0)), (1, .ref (ad o1 0 0)), (2, .int 0)]) rfl ?_
  refine w2_begin_L50 X ho ho1 _ _ _ h (fun s24 h => ?_)
  exact r_vret X rfl (x_dr DX2_begin 68 rfl) ⟨rfl, h⟩
set_option maxRecDepth 10000 in
theorem w2_lift_L2 {ad : xAd} {E : xE} (X : FX ad E cX2_lift 3 RX2 none 0 0) {o : Nat} (ho : x_cl o = 2) {a1 : Int32} {K : xSt → Prop} {Q : xSt → Prop} : ∀ (n : Nat) (a2 : Int32) (σ : xSt), d2_lift_L2 o a1 K Q n a2 σ → (∀ (s : xSt), K  s → KK ad E (qV Q) 32 ([]) [] s) → KK ad E (qV Q) 2 ([(0, .ref (ad o 0 0)), (1, .int a1), (2, .int a2)]) [] σ := by
  intro n
  induction n with
  | zero => intro a2 σ h kk; exact h.elim
  | succ n ih =>
    intro a2 σ h kk
    rw [d2_lift_L2] at h
    refine r_iload_n X (x_dr DX2_lift 2 rfl) 2 rfl rfl ?_
    refine r_aload_n X (x_dr DX2_lift 3 rfl) 0 rfl rfl ?_
    refine gf_2_103 X ho (x_dr DX2_lift 4 rfl) ?_
    refine r_icmp_ge X 32 (x_dr DX2_lift 5 rfl) (by decide) (fun c1 => ?_) (fun c1 => ?_)
    · replace h := h.1 c1
      refine r_norm X [] ([]) rfl ?_
      exact kk  _ h
    · replace h := h.2 c1
      refine r_aload_n X (x_dr DX2_lift 6 rfl) 0 rfl rfl ?_
      refine gf_2_27 X ho (x_dr DX2_lift 7 rfl) ?_
      refine r_iload_n X (x_dr DX2_lift 8 rfl) 2 rfl rfl ?_
      refine r_iload_n X (x_dr DX2_lift 9 rfl) 1 rfl rfl ?_
      refine r_iconst (v := 1) X (x_dr DX2_lift 10 rfl) (by decide) ?_
      refine r_iadd X (x_dr DX2_lift 11 rfl) ?_
      refine r_aload_n X (x_dr DX2_lift 12 rfl) 0 rfl rfl ?_
      refine gf_2_18 X ho (x_dr DX2_lift 13 rfl) ?_
      refine r_iload_n X (x_dr DX2_lift 14 rfl) 2 rfl rfl ?_
      obtain ⟨b2, h⟩ := h
      refine r_iald X ho rfl b2 (x_dr DX2_lift 15 rfl) ?_
      refine r_iadd X (x_dr DX2_lift 16 rfl) ?_
      obtain ⟨b3, h⟩ := h
      refine r_iast X ho rfl b3 (x_dr DX2_lift 17 rfl) ?_
      refine r_nmS (fun s4 es4 => ?_)
      replace h := h s4 es4
      obtain ⟨v5, ev5⟩ : ∃ z : Int32, z = a2 + 1 := ⟨_, rfl⟩
      replace h := h v5 ev5
      refine r_iinc (v := v5) X ([(2, .int v5), (0, .ref (ad o 0 0)), (1, .int a1)]) 2 (x_dr DX2_lift 18 rfl) rfl (by rw [ev5]; rfl) (by decide) rfl ?_
      refine r_goto X 2 (x_dr DX2_lift 19 rfl) (by decide) ?_
      refine r_norm X [1, 2, 0] ([(0, .ref (ad o 0 0)), (1, .int a1), (2, .int v5)]) rfl ?_
      exact ih _ _ h kk
set_option maxRecDepth 10000 in
theorem k2_lift {ad : xAd} {G : xG} {l : Launch} {o : Nat} {a1 : Int32} {σ : xSt} {Q : xSt → Prop} (ho : x_cl o = 2) (h : d2_lift o a1 σ Q) : MC ad G l yX2_lift cX2_lift 3 none 0 0 [.ref (ad o 0 0), .int a1] σ (qV Q) := by
  unfold d2_lift at h
  refine x_MC [(0, .ref (ad o 0 0)), (1, .int a1)] (by decide +kernel) rfl (Nat.le_of_ble_eq_true rfl) ?_
  intro E hG hl X
  replace X : FX ad E cX2_lift 3 RX2 none 0 0 := X
  refine r_iconst (v := 0) X (x_dr DX2_lift 0 rfl) (by decide) ?_
  refine r_istore_n X ([(2, .int 0), (0, .ref (ad o 0 0)), (1, .int a1)]) (x_dr DX2_lift 1 rfl) rfl (by decide) rfl ?_
  refine r_norm X [1, 2, 0] ([(0, .ref (ad o 0 0)), (1, .int a1), (2, .int 0)]) rfl ?_
  refine w2_lift_L2 X ho _ _ _ h (fun s6 h => ?_)
  exact r_vret X rfl (x_dr DX2_lift 20 rfl) ⟨rfl, h⟩
set_option maxRecDepth 10000 in
theorem w2_pepper_L2 {ad : xAd} {E : xE} (X : FX ad E cX2_pepper 3 RX2 none 0 0) {o : Nat} (ho : x_cl o = 2) {a1 : Int32} {K : xSt → Prop} {Q : xSt → Prop} : ∀ (n : Nat) (a2 : Int32) (σ : xSt), d2_pepper_L2 o a1 K Q n a2 σ → (∀ (s : xSt), K  s → KK ad E (qV Q) 40 ([]) [] s) → KK ad E (qV Q) 2 ([(0, .ref (ad o 0 0)), (1, .int a1), (2, .int a2)]) [] σ := by
  intro n
  induction n with
  | zero => intro a2 σ h kk; exact h.elim
  | succ n ih =>
    intro a2 σ h kk
    rw [d2_pepper_L2] at h
    refine r_iload_n X (x_dr DX2_pepper 2 rfl) 2 rfl rfl ?_
    refine r_aload_n X (x_dr DX2_pepper 3 rfl) 0 rfl rfl ?_
    refine gf_2_103 X ho (x_dr DX2_pepper 4 rfl) ?_
    refine r_icmp_ge X 40 (x_dr DX2_pepper 5 rfl) (by decide) (fun c1 => ?_) (fun c1 => ?_)
    · replace h := h.1 c1
      refine r_norm X [] ([]) rfl ?_
      exact kk  _ h
    · replace h := h.2 c1
      refine r_aload_n X (x_dr DX2_pepper 6 rfl) 0 rfl rfl ?_
      refine gf_2_21 X ho (x_dr DX2_pepper 7 rfl) ?_
      refine r_iload_n X (x_dr DX2_pepper 8 rfl) 2 rfl rfl ?_
      obtain ⟨b2, h⟩ := h
      refine r_iald X ho rfl b2 (x_dr DX2_pepper 9 rfl) ?_
      refine r_iload_n X (x_dr DX2_pepper 10 rfl) 1 rfl rfl ?_
      refine r_icmp_ne X 34 (x_dr DX2_pepper 11 rfl) (by decide) (fun c3 => ?_) (fun c3 => ?_)
      · replace h := h.1 c3
        obtain ⟨v4, ev4⟩ : ∃ z : Int32, z = a2 + 1 := ⟨_, rfl⟩
        replace h := h v4 ev4
        refine r_iinc (v := v4) X ([(2, .int v4), (0, .ref (ad o 0 0)), (1, .int a1)]) 2 (x_dr DX2_pepper 22 rfl) rfl (by rw [ev4]; rfl) (by decide) rfl ?_
        refine r_goto X 2 (x_dr DX2_pepper 23 rfl) (by decide) ?_
        refine r_norm X [1, 2, 0] ([(0, .ref (ad o 0 0)), (1, .int a1), (2, .int v4)]) rfl ?_
        exact ih _ _ h kk
      · replace h := h.2 c3
        refine r_aload_n X (x_dr DX2_pepper 12 rfl) 0 rfl rfl ?_
        refine gf_2_24 X ho (x_dr DX2_pepper 13 rfl) ?_
        refine r_iload_n X (x_dr DX2_pepper 14 rfl) 2 rfl rfl ?_
        refine r_iconst (v := 1) X (x_dr DX2_pepper 15 rfl) (by decide) ?_
        refine r_aload_n X (x_dr DX2_pepper 16 rfl) 0 rfl rfl ?_
        refine gf_2_24 X ho (x_dr DX2_pepper 17 rfl) ?_
        refine r_iload_n X (x_dr DX2_pepper 18 rfl) 2 rfl rfl ?_
        obtain ⟨b5, h⟩ := h
        refine r_iald X ho rfl b5 (x_dr DX2_pepper 19 rfl) ?_
        refine r_isub X (x_dr DX2_pepper 20 rfl) ?_
        obtain ⟨b6, h⟩ := h
        refine r_iast X ho rfl b6 (x_dr DX2_pepper 21 rfl) ?_
        refine r_nmS (fun s7 es7 => ?_)
        replace h := h s7 es7
        obtain ⟨v8, ev8⟩ : ∃ z : Int32, z = a2 + 1 := ⟨_, rfl⟩
        replace h := h v8 ev8
        refine r_iinc (v := v8) X ([(2, .int v8), (0, .ref (ad o 0 0)), (1, .int a1)]) 2 (x_dr DX2_pepper 22 rfl) rfl (by rw [ev8]; rfl) (by decide) rfl ?_
        refine r_goto X 2 (x_dr DX2_pepper 23 rfl) (by decide) ?_
        refine r_norm X [1, 2, 0] ([(0, .ref (ad o 0 0)), (1, .int a1), (2, .int v8)]) rfl ?_
        exact ih _ _ h kk
set_option maxRecDepth 10000 in
theorem k2_pepper {ad : xAd} {G : xG} {l : Launch} {o : Nat} {a1 : Int32} {σ : xSt} {Q : xSt → Prop} (ho : x_cl o = 2) (h : d2_pepper o a1 σ Q) : MC ad G l yX2_pepper cX2_pepper 3 none 0 0 [.ref (ad o 0 0), .int a1] σ (qV Q) := by
  unfold d2_pepper at h
  refine x_MC [(0, .ref (ad o 0 0)), (1, .int a1)] (by decide +kernel) rfl (Nat.le_of_ble_eq_true rfl) ?_
  intro E hG hl X
  replace X : FX ad E cX2_pepper 3 RX2 none 0 0 := X
  refine r_iconst (v := 0) X (x_dr DX2_pepper 0 rfl) (by decide) ?_
  refine r_istore_n X ([(2, .int 0), (0, .ref (ad o 0 0)), (1, .int a1)]) (x_dr DX2_pepper 1 rfl) rfl (by decide) rfl ?_
  refine r_norm X [1, 2, 0] ([(0, .ref (ad o 0 0)), (1, .int a1), (2, .int 0)]) rfl ?_
  refine w2_pepper_L2 X ho _ _ _ h (fun s9 h => ?_)
  exact r_vret X rfl (x_dr DX2_pepper 24 rfl) ⟨rfl, h⟩
set_option maxRecDepth 10000 in
theorem w2_wetAll_L2 {ad : xAd} {E : xE} (X : FX ad E cX2_wetAll 4 RX2 none 0 0) {o : Nat} (ho : x_cl o = 2) {a1 : Int32} {K : xSt → Prop} {Q : xSt → Prop} : ∀ (n : Nat) (a2 : Int32) (σ : xSt), d2_wetAll_L2 o a1 K Q n a2 σ → (∀ (s : xSt), K  s → KK ad E (qV Q) 49 ([]) [] s) → KK ad E (qV Q) 2 ([(0, .ref (ad o 0 0)), (1, .int a1), (2, .int a2)]) [] σ := by
  intro n
  induction n with
  | zero => intro a2 σ h kk; exact h.elim
  | succ n ih =>
    intro a2 σ h kk
    rw [d2_wetAll_L2] at h
    refine r_iload_n X (x_dr DX2_wetAll 2 rfl) 2 rfl rfl ?_
    refine r_bipush (v := 12) X (x_dr DX2_wetAll 3 rfl) (by decide) ?_
    refine r_icmp_ge X 49 (x_dr DX2_wetAll 4 rfl) (by decide) (fun c1 => ?_) (fun c1 => ?_)
    · replace h := h.1 c1
      refine r_norm X [] ([]) rfl ?_
      exact kk  _ h
    · replace h := h.2 c1
      refine r_aload_n X (x_dr DX2_wetAll 5 rfl) 0 rfl rfl ?_
      refine gf_2_9 X ho (x_dr DX2_wetAll 6 rfl) ?_
      refine r_iload_n X (x_dr DX2_wetAll 7 rfl) 2 rfl rfl ?_
      obtain ⟨b2, h⟩ := h
      refine r_iald X ho rfl b2 (x_dr DX2_wetAll 8 rfl) ?_
      refine r_iload_n X (x_dr DX2_wetAll 9 rfl) 1 rfl rfl ?_
      refine r_iadd X (x_dr DX2_wetAll 10 rfl) ?_
      refine r_nmI (fun v3 ev3 => ?_)
      replace h := h v3 ev3
      refine r_istore_n X ([(3, .int v3), (0, .ref (ad o 0 0)), (1, .int a1), (2, .int a2)]) (x_dr DX2_wetAll 11 rfl) rfl (by decide) rfl ?_
      refine r_aload_n X (x_dr DX2_wetAll 12 rfl) 1 rfl rfl ?_
      refine gf_2_9 X ho (x_dr DX2_wetAll 13 rfl) ?_
      refine r_iload_n X (x_dr DX2_wetAll 14 rfl) 3 rfl rfl ?_
      refine r_iload_n X (x_dr DX2_wetAll 15 rfl) 0 rfl rfl ?_
      refine r_if_ge X 30 (x_dr DX2_wetAll 16 rfl) (by decide) (fun c4 => ?_) (fun c4 => ?_)
      · replace h := h.1 c4
        refine r_iload_n X (x_dr DX2_wetAll 19 rfl) 0 rfl rfl ?_
        refine r_bipush (v := 9) X (x_dr DX2_wetAll 20 rfl) (by decide) ?_
        refine r_icmp_le X 41 (x_dr DX2_wetAll 21 rfl) (by decide) (fun c5 => ?_) (fun c5 => ?_)
        · replace h := h.1 c5
          refine r_iload_n X (x_dr DX2_wetAll 24 rfl) 0 rfl rfl ?_
          obtain ⟨b6, h⟩ := h
          refine r_iast X ho rfl b6 (x_dr DX2_wetAll 25 rfl) ?_
          refine r_nmS (fun s7 es7 => ?_)
          replace h := h s7 es7
          obtain ⟨v8, ev8⟩ : ∃ z : Int32, z = a2 + 1 := ⟨_, rfl⟩
          replace h := h v8 ev8
          refine r_iinc (v := v8) X ([(2, .int v8), (3, .int v3), (0, .ref (ad o 0 0)), (1, .int a1)]) 3 (x_dr DX2_wetAll 26 rfl) rfl (by rw [ev8]; rfl) (by decide) rfl ?_
          refine r_goto X 2 (x_dr DX2_wetAll 27 rfl) (by decide) ?_
          refine r_norm X [2, 3, 0] ([(0, .ref (ad o 0 0)), (1, .int a1), (2, .int v8)]) rfl ?_
          exact ih _ _ h kk
        · replace h := h.2 c5
          refine r_bipush (v := 9) X (x_dr DX2_wetAll 22 rfl) (by decide) ?_
          refine r_goto X 42 (x_dr DX2_wetAll 23 rfl) (by decide) ?_
          obtain ⟨b9, h⟩ := h
          refine r_iast X ho rfl b9 (x_dr DX2_wetAll 25 rfl) ?_
          refine r_nmS (fun s10 es10 => ?_)
          replace h := h s10 es10
          obtain ⟨v11, ev11⟩ : ∃ z : Int32, z = a2 + 1 := ⟨_, rfl⟩
          replace h := h v11 ev11
          refine r_iinc (v := v11) X ([(2, .int v11), (3, .int v3), (0, .ref (ad o 0 0)), (1, .int a1)]) 3 (x_dr DX2_wetAll 26 rfl) rfl (by rw [ev11]; rfl) (by decide) rfl ?_
          refine r_goto X 2 (x_dr DX2_wetAll 27 rfl) (by decide) ?_
          refine r_norm X [2, 3, 0] ([(0, .ref (ad o 0 0)), (1, .int a1), (2, .int v11)]) rfl ?_
          exact ih _ _ h kk
      · replace h := h.2 c4
        refine r_iconst (v := 0) X (x_dr DX2_wetAll 17 rfl) (by decide) ?_
        refine r_goto X 42 (x_dr DX2_wetAll 18 rfl) (by decide) ?_
        obtain ⟨b12, h⟩ := h
        refine r_iast X ho rfl b12 (x_dr DX2_wetAll 25 rfl) ?_
        refine r_nmS (fun s13 es13 => ?_)
        replace h := h s13 es13
        obtain ⟨v14, ev14⟩ : ∃ z : Int32, z = a2 + 1 := ⟨_, rfl⟩
        replace h := h v14 ev14
        refine r_iinc (v := v14) X ([(2, .int v14), (3, .int v3), (0, .ref (ad o 0 0)), (1, .int a1)]) 3 (x_dr DX2_wetAll 26 rfl) rfl (by rw [ev14]; rfl) (by decide) rfl ?_
        refine r_goto X 2 (x_dr DX2_wetAll 27 rfl) (by decide) ?_
        refine r_norm X [2, 3, 0] ([(0, .ref (ad o 0 0)), (1, .int a1), (2, .int v14)]) rfl ?_
        exact ih _ _ h kk
set_option maxRecDepth 10000 in
theorem k2_wetAll {ad : xAd} {G : xG} {l : Launch} {o : Nat} {a1 : Int32} {σ : xSt} {Q : xSt → Prop} (ho : x_cl o = 2) (h : d2_wetAll o a1 σ Q) : MC ad G l yX2_wetAll cX2_wetAll 4 none 0 0 [.ref (ad o 0 0), .int a1] σ (qV Q) := by
  unfold d2_wetAll at h
  refine x_MC [(0, .ref (ad o 0 0)), (1, .int a1)] (by decide +kernel) rfl (Nat.le_of_ble_eq_true rfl) ?_
  intro E hG hl X
  replace X : FX ad E cX2_wetAll 4 RX2 none 0 0 := X
  refine r_iconst (v := 0) X (x_dr DX2_wetAll 0 rfl) (by decide) ?_
  refine r_istore_n X ([(2, .int 0), (0, .ref (ad o 0 0)), (1, .int a1)]) (x_dr DX2_wetAll 1 rfl) rfl (by decide) rfl ?_
  refine r_norm X [1, 2, 0] ([(0, .ref (ad o 0 0)), (1, .int a1), (2, .int 0)]) rfl ?_
  refine w2_wetAll_L2 X ho _ _ _ h (fun s15 h => ?_)
  exact r_vret X rfl (x_dr DX2_wetAll 28 rfl) ⟨rfl, h⟩
set_option maxRecDepth 10000 in
theorem w2_doEvents_L2 {ad : xAd} {E : xE} (X : FX ad E cX2_doEvents 5 RX2 none 1 23) {o o1 : Nat} (ho : x_cl o = 2) (ho1 : x_cl o1 = 1) {a2 : Int32} {K : xSt → Prop} {Q : xSt → Prop} : ∀ (n : Nat) (a3 : Int32) (σ : xSt), d2_doEvents_L2 o o1 a2 K Q n a3 σ → (∀ (s : xSt), K  s → KK ad E (qV Q) 105 ([(0, .ref (ad o 0 0)), (2, .int a2)]) [] s) → KK ad E (qV Q) 2 ([(0, .ref (ad o 0 0)), (1, .ref (ad o1 0 0)), (2, .int a2), (3, .int a3)]) [] σ := by
  intro n
  induction n with
  | zero => intro a3 σ h kk; exact h.elim
  | succ n ih =>
    intro a3 σ h kk
    rw [d2_doEvents_L2] at h
    refine r_iload_n X (x_dr DX2_doEvents 2 rfl) 3 rfl rfl ?_
    refine r_aload_n X (x_dr DX2_doEvents 3 rfl) 1 rfl rfl ?_
    refine gf_2_110 X ho1 (x_dr DX2_doEvents 4 rfl) ?_
    refine r_icmp_ge X 105 (x_dr DX2_doEvents 5 rfl) (by decide) (fun c1 => ?_) (fun c1 => ?_)
    · replace h := h.1 c1
      refine r_norm X [0, 2] ([(0, .ref (ad o 0 0)), (2, .int a2)]) rfl ?_
      exact kk  _ h
    · replace h := h.2 c1
      refine r_iload_n X (x_dr DX2_doEvents 6 rfl) 3 rfl rfl ?_
      refine r_aload_n X (x_dr DX2_doEvents 7 rfl) 1 rfl rfl ?_
      refine gf_2_113 X ho1 (x_dr DX2_doEvents 8 rfl) ?_
      refine r_alen X ho1 rfl (v := 9) (by decide) (x_dr DX2_doEvents 9 rfl) ?_
      refine r_icmp_ge X 105 (x_dr DX2_doEvents 10 rfl) (by decide) (fun c2 => ?_) (fun c2 => ?_)
      · replace h := h.1 c2
        refine r_norm X [0, 2] ([(0, .ref (ad o 0 0)), (2, .int a2)]) rfl ?_
        exact kk  _ h
      · replace h := h.2 c2
        refine r_aload_n X (x_dr DX2_doEvents 11 rfl) 1 rfl rfl ?_
        refine gf_2_116 X ho1 (x_dr DX2_doEvents 12 rfl) ?_
        refine r_iload_n X (x_dr DX2_doEvents 13 rfl) 3 rfl rfl ?_
        obtain ⟨b3, h⟩ := h
        refine r_iald X ho1 rfl b3 (x_dr DX2_doEvents 14 rfl) ?_
        refine r_iload_n X (x_dr DX2_doEvents 15 rfl) 2 rfl rfl ?_
        obtain ⟨j7, ej7, h⟩ := x_jn h
        have Jj7 : ∀ (v6 : Int32), j7 v6 → KK ad E (qV Q) 39 ([(0, .ref (ad o 0 0)), (1, .ref (ad o1 0 0)), (2, .int a2), (3, .int a3)]) [.int v6] σ := by
          intro v6 h
          rw [ej7] at h
          refine r_istore X ([(4, .int v6), (0, .ref (ad o 0 0)), (1, .ref (ad o1 0 0)), (2, .int a2), (3, .int a3)]) (x_dr DX2_doEvents 23 rfl) (by decide) rfl ?_
          refine r_iload X (x_dr DX2_doEvents 24 rfl) 0 rfl ?_
          refine r_if_ne X 54 (x_dr DX2_doEvents 25 rfl) (by decide) (fun c8 => ?_) (fun c8 => ?_)
          · replace h := h.1 c8
            refine r_iload X (x_dr DX2_doEvents 30 rfl) 0 rfl ?_
            refine r_iconst (v := 1) X (x_dr DX2_doEvents 31 rfl) (by decide) ?_
            refine r_icmp_ne X 73 (x_dr DX2_doEvents 32 rfl) (by decide) (fun c9 => ?_) (fun c9 => ?_)
            · replace h := h.1 c9
              refine r_iload X (x_dr DX2_doEvents 40 rfl) 0 rfl ?_
              refine r_iconst (v := 2) X (x_dr DX2_doEvents 41 rfl) (by decide) ?_
              refine r_icmp_ne X 88 (x_dr DX2_doEvents 42 rfl) (by decide) (fun c10 => ?_) (fun c10 => ?_)
              · replace h := h.1 c10
                refine r_iload X (x_dr DX2_doEvents 47 rfl) 0 rfl ?_
                refine r_iconst (v := 3) X (x_dr DX2_doEvents 48 rfl) (by decide) ?_
                refine r_icmp_ne X 99 (x_dr DX2_doEvents 49 rfl) (by decide) (fun c11 => ?_) (fun c11 => ?_)
                · replace h := h.1 c11
                  obtain ⟨v12, ev12⟩ : ∃ z : Int32, z = a3 + 1 := ⟨_, rfl⟩
                  replace h := h v12 ev12
                  refine r_iinc (v := v12) X ([(3, .int v12), (4, .int v6), (0, .ref (ad o 0 0)), (1, .ref (ad o1 0 0)), (2, .int a2)]) 4 (x_dr DX2_doEvents 53 rfl) rfl (by rw [ev12]; rfl) (by decide) rfl ?_
                  refine r_goto X 2 (x_dr DX2_doEvents 54 rfl) (by decide) ?_
                  refine r_norm X [2, 3, 4, 0] ([(0, .ref (ad o 0 0)), (1, .ref (ad o1 0 0)), (2, .int a2), (3, .int v12)]) rfl ?_
                  exact ih _ _ h kk
                · replace h := h.2 c11
                  refine r_aload_n X (x_dr DX2_doEvents 50 rfl) 1 rfl rfl ?_
                  refine r_iconst (v := 3) X (x_dr DX2_doEvents 51 rfl) (by decide) ?_
                  refine cl2_wetAll X (k2_wetAll ho h) ho ml_2_128 ⟨Nat.le_of_ble_eq_true rfl, Nat.le_of_ble_eq_true rfl⟩ (Nat.le_of_ble_eq_true rfl) (x_dr DX2_doEvents 52 rfl) (fun s13 h => ?_)
                  obtain ⟨v14, ev14⟩ : ∃ z : Int32, z = a3 + 1 := ⟨_, rfl⟩
                  replace h := h v14 ev14
                  refine r_iinc (v := v14) X ([(3, .int v14), (4, .int v6), (0, .ref (ad o 0 0)), (1, .ref (ad o1 0 0)), (2, .int a2)]) 4 (x_dr DX2_doEvents 53 rfl) rfl (by rw [ev14]; rfl) (by decide) rfl ?_
                  refine r_goto X 2 (x_dr DX2_doEvents 54 rfl) (by decide) ?_
                  refine r_norm X [2, 3, 4, 0] ([(0, .ref (ad o 0 0)), (1, .ref (ad o1 0 0)), (2, .int a2), (3, .int v14)]) rfl ?_
                  exact ih _ _ h kk
              · replace h := h.2 c10
                refine r_aload_n X (x_dr DX2_doEvents 43 rfl) 1 rfl rfl ?_
                refine r_bipush (v := (-2)) X (x_dr DX2_doEvents 44 rfl) (by decide) ?_
                refine cl2_wetAll X (k2_wetAll ho h) ho ml_2_128 ⟨Nat.le_of_ble_eq_true rfl, Nat.le_of_ble_eq_true rfl⟩ (Nat.le_of_ble_eq_true rfl) (x_dr DX2_doEvents 45 rfl) (fun s15 h => ?_)
                refine r_goto X 99 (x_dr DX2_doEvents 46 rfl) (by decide) ?_
                obtain ⟨v16, ev16⟩ : ∃ z : Int32, z = a3 + 1 := ⟨_, rfl⟩
                replace h := h v16 ev16
                refine r_iinc (v := v16) X ([(3, .int v16), (4, .int v6), (0, .ref (ad o 0 0)), (1, .ref (ad o1 0 0)), (2, .int a2)]) 4 (x_dr DX2_doEvents 53 rfl) rfl (by rw [ev16]; rfl) (by decide) rfl ?_
                refine r_goto X 2 (x_dr DX2_doEvents 54 rfl) (by decide) ?_
                refine r_norm X [2, 3, 4, 0] ([(0, .ref (ad o 0 0)), (1, .ref (ad o1 0 0)), (2, .int a2), (3, .int v16)]) rfl ?_
                exact ih _ _ h kk
            · replace h := h.2 c9
              refine r_aload_n X (x_dr DX2_doEvents 33 rfl) 1 rfl rfl ?_
              refine r_aload_n X (x_dr DX2_doEvents 34 rfl) 2 rfl rfl ?_
              refine gf_2_122 X ho1 (x_dr DX2_doEvents 35 rfl) ?_
              refine r_iload_n X (x_dr DX2_doEvents 36 rfl) 4 rfl rfl ?_
              obtain ⟨b17, h⟩ := h
              refine r_iald X ho1 rfl b17 (x_dr DX2_doEvents 37 rfl) ?_
              refine cl2_pepper X (k2_pepper ho h) ho ml_2_125 ⟨Nat.le_of_ble_eq_true rfl, Nat.le_of_ble_eq_true rfl⟩ (Nat.le_of_ble_eq_true rfl) (x_dr DX2_doEvents 38 rfl) (fun s18 h => ?_)
              refine r_goto X 99 (x_dr DX2_doEvents 39 rfl) (by decide) ?_
              obtain ⟨v19, ev19⟩ : ∃ z : Int32, z = a3 + 1 := ⟨_, rfl⟩
              replace h := h v19 ev19
              refine r_iinc (v := v19) X ([(3, .int v19), (4, .int v6), (0, .ref (ad o 0 0)), (1, .ref (ad o1 0 0)), (2, .int a2)]) 4 (x_dr DX2_doEvents 53 rfl) rfl (by rw [ev19]; rfl) (by decide) rfl ?_
              refine r_goto X 2 (x_dr DX2_doEvents 54 rfl) (by decide) ?_
              refine r_norm X [2, 3, 4, 0] ([(0, .ref (ad o 0 0)), (1, .ref (ad o1 0 0)), (2, .int a2), (3, .int v19)]) rfl ?_
              exact ih _ _ h kk
          · replace h := h.2 c8
            refine r_aload_n X (x_dr DX2_doEvents 26 rfl) 1 rfl rfl ?_
            refine r_iload_n X (x_dr DX2_doEvents 27 rfl) 3 rfl rfl ?_
            refine cl2_lift X (k2_lift ho h) ho ml_2_119 ⟨Nat.le_of_ble_eq_true rfl, Nat.le_of_ble_eq_true rfl⟩ (Nat.le_of_ble_eq_true rfl) (x_dr DX2_doEvents 28 rfl) (fun s20 h => ?_)
            refine r_goto X 99 (x_dr DX2_doEvents 29 rfl) (by decide) ?_
            obtain ⟨v21, ev21⟩ : ∃ z : Int32, z = a3 + 1 := ⟨_, rfl⟩
            replace h := h v21 ev21
            refine r_iinc (v := v21) X ([(3, .int v21), (4, .int v6), (0, .ref (ad o 0 0)), (1, .ref (ad o1 0 0)), (2, .int a2)]) 4 (x_dr DX2_doEvents 53 rfl) rfl (by rw [ev21]; rfl) (by decide) rfl ?_
            refine r_goto X 2 (x_dr DX2_doEvents 54 rfl) (by decide) ?_
            refine r_norm X [2, 3, 4, 0] ([(0, .ref (ad o 0 0)), (1, .ref (ad o1 0 0)), (2, .int a2), (3, .int v21)]) rfl ?_
            exact ih _ _ h kk
        refine r_icmp_ne X 38 (x_dr DX2_doEvents 16 rfl) (by decide) (fun c22 => ?_) (fun c22 => ?_)
        · replace h := h.1 c22
          refine r_iconst (v := (-1)) X (x_dr DX2_doEvents 22 rfl) (by decide) ?_
          refine r_norm X [0, 1, 2, 3] ([(0, .ref (ad o 0 0)), (1, .ref (ad o1 0 0)), (2, .int a2), (3, .int a3)]) rfl ?_
          exact Jj7 _ h
        · replace h := h.2 c22
          refine r_aload_n X (x_dr DX2_doEvents 17 rfl) 1 rfl rfl ?_
          refine gf_2_113 X ho1 (x_dr DX2_doEvents 18 rfl) ?_
          refine r_iload_n X (x_dr DX2_doEvents 19 rfl) 3 rfl rfl ?_
          obtain ⟨b23, h⟩ := h
          refine r_iald X ho1 rfl b23 (x_dr DX2_doEvents 20 rfl) ?_
          refine r_goto X 39 (x_dr DX2_doEvents 21 rfl) (by decide) ?_
          refine r_norm X [0, 1, 2, 3] ([(0, .ref (ad o 0 0)), (1, .ref (ad o1 0 0)), (2, .int a2), (3, .int a3)]) rfl ?_
          exact Jj7 _ h
set_option maxRecDepth 10000 in
theorem w2_doEvents_L107 {ad : xAd} {E : xE} (X : FX ad E cX2_doEvents 5 RX2 none 1 23) {o o1 : Nat} (ho : x_cl o = 2) (ho1 : x_cl o1 = 1) {a2 : Int32} {K : xSt → Prop} {Q : xSt → Prop} : ∀ (n : Nat) (a3 : Int32) (σ : xSt), d2_doEvents_L107 o o1 a2 K Q n a3 σ → (∀ (s : xSt), K  s → KK ad E (qV Q) 142 ([]) [] s) → KK ad E (qV Q) 107 ([(0, .ref (ad o 0 0)), (2, .int a2), (3, .int a3)]) [] σ := by
  intro n
  induction n with
  | zero => intro a3 σ h kk; exact h.elim
  | succ n ih =>
    intro a3 σ h kk
    rw [d2_doEvents_L107] at h
    refine r_iload_n X (x_dr DX2_doEvents 57 rfl) 2 rfl rfl ?_
    refine r_aload_n X (x_dr DX2_doEvents 58 rfl) 0 rfl rfl ?_
    refine gf_2_103 X ho (x_dr DX2_doEvents 59 rfl) ?_
    refine r_icmp_ge X 142 (x_dr DX2_doEvents 60 rfl) (by decide) (fun c25 => ?_) (fun c25 => ?_)
    · replace h := h.1 c25
      refine r_norm X [] ([]) rfl ?_
      exact kk  _ h
    · replace h := h.2 c25
      refine r_aload_n X (x_dr DX2_doEvents 61 rfl) 0 rfl rfl ?_
      refine gf_2_30 X ho (x_dr DX2_doEvents 62 rfl) ?_
      refine r_iload_n X (x_dr DX2_doEvents 63 rfl) 2 rfl rfl ?_
      refine r_iload_n X (x_dr DX2_doEvents 64 rfl) 1 rfl rfl ?_
      refine r_aload_n X (x_dr DX2_doEvents 65 rfl) 0 rfl rfl ?_
      refine gf_2_27 X ho (x_dr DX2_doEvents 66 rfl) ?_
      refine r_iload_n X (x_dr DX2_doEvents 67 rfl) 2 rfl rfl ?_
      obtain ⟨b26, h⟩ := h
      refine r_iald X ho rfl b26 (x_dr DX2_doEvents 68 rfl) ?_
      refine r_icmp_ge X 134 (x_dr DX2_doEvents 69 rfl) (by decide) (fun c27 => ?_) (fun c27 => ?_)
      · replace h := h.1 c27
        refine r_iconst (v := 0) X (x_dr DX2_doEvents 72 rfl) (by decide) ?_
        obtain ⟨b28, h⟩ := h
        refine r_zast X ho rfl b28 (x_dr DX2_doEvents 73 rfl) ?_
        refine r_nmS (fun s29 es29 => ?_)
        replace h := h s29 es29
        obtain ⟨v30, ev30⟩ : ∃ z : Int32, z = a3 + 1 := ⟨_, rfl⟩
        replace h := h v30 ev30
        refine r_iinc (v := v30) X ([(3, .int v30), (0, .ref (ad o 0 0)), (2, .int a2)]) 2 (x_dr DX2_doEvents 74 rfl) rfl (by rw [ev30]; rfl) (by decide) rfl ?_
        refine r_goto X 107 (x_dr DX2_doEvents 75 rfl) (by decide) ?_
        refine r_norm X [1, 2, 0] ([(0, .ref (ad o 0 0)), (2, .int a2), (3, .int v30)]) rfl ?_
        exact ih _ _ h kk
      · replace h := h.2 c27
        refine r_iconst (v := 1) X (x_dr DX2_doEvents 70 rfl) (by decide) ?_
        refine r_goto X 135 (x_dr DX2_doEvents 71 rfl) (by decide) ?_
        obtain ⟨b31, h⟩ := h
        refine r_zast X ho rfl b31 (x_dr DX2_doEvents 73 rfl) ?_
        refine r_nmS (fun s32 es32 => ?_)
        replace h := h s32 es32
        obtain ⟨v33, ev33⟩ : ∃ z : Int32, z = a3 + 1 := ⟨_, rfl⟩
        replace h := h v33 ev33
        refine r_iinc (v := v33) X ([(3, .int v33), (0, .ref (ad o 0 0)), (2, .int a2)]) 2 (x_dr DX2_doEvents 74 rfl) rfl (by rw [ev33]; rfl) (by decide) rfl ?_
        refine r_goto X 107 (x_dr DX2_doEvents 75 rfl) (by decide) ?_
        refine r_norm X [1, 2, 0] ([(0, .ref (ad o 0 0)), (2, .int a2), (3, .int v33)]) rfl ?_
        exact ih _ _ h kk
set_option maxRecDepth 10000 in
theorem k2_doEvents {ad : xAd} {G : xG} {l : Launch} {o o1 : Nat} {a2 : Int32} {σ : xSt} {Q : xSt → Prop} (ho : x_cl o = 2) (ho1 : x_cl o1 = 1) (h : d2_doEvents o o1 a2 σ Q) : MC ad G l yX2_doEvents cX2_doEvents 5 none 1 23 [.ref (ad o 0 0), .ref (ad o1 0 0), .int a2] σ (qV Q) := by
  unfold d2_doEvents at h
  refine x_MC [(0, .ref (ad o 0 0)), (1, .ref (ad o1 0 0)), (2, .int a2)] (by decide +kernel) rfl (Nat.le_of_ble_eq_true rfl) ?_
  intro E hG hl X
  replace X : FX ad E cX2_doEvents 5 RX2 none 1 23 := X
  refine r_iconst (v := 0) X (x_dr DX2_doEvents 0 rfl) (by decide) ?_
  refine r_istore_n X ([(3, .int 0), (0, .ref (ad o 0 0)), (1, .ref (ad o1 0 0)), (2, .int a2)]) (x_dr DX2_doEvents 1 rfl) rfl (by decide) rfl ?_
  refine r_norm X [1, 2, 3, 0] ([(0, .ref (ad o 0 0)), (1, .ref (ad o1 0 0)), (2, .int a2), (3, .int 0)]) rfl ?_
  refine w2_doEvents_L2 X ho ho1 _ _ _ h (fun s24 h => ?_)
  refine r_iconst (v := 0) X (x_dr DX2_doEvents 55 rfl) (by decide) ?_
  refine r_istore_n X ([(3, .int 0), (0, .ref (ad o 0 0)), (2, .int a2)]) (x_dr DX2_doEvents 56 rfl) rfl (by decide) rfl ?_
  refine r_norm X [1, 2, 0] ([(0, .ref (ad o 0 0)), (2, .int a2), (3, .int 0)]) rfl ?_
  refine w2_doEvents_L107 X ho ho1 _ _ _ h (fun s34 h => ?_)
  exact r_vret X rfl (x_dr DX2_doEvents 76 rfl) ⟨rfl, h⟩
set_option maxRecDepth 10000 in
theorem k2_stepsOf {ad : xAd} {G : xG} {l : Launch} {a0 : Int32} {a1 : Int32} {σ : xSt} {Q : Int32 → xSt → Prop}  (h : d2_stepsOf a0 a1 σ Q) : MC ad G l yX2_stepsOf cX2_stepsOf 2 (some .int) 0 0 [.int a0, .int a1] σ (qI Q) := by
  unfold d2_stepsOf at h
  refine x_MC [(0, .int a0), (1, .int a1)] (by decide +kernel) rfl (Nat.le_of_ble_eq_true rfl) ?_
  intro E hG hl X
  replace X : FX ad E cX2_stepsOf 2 RX2 (some .int) 0 0 := X
  refine r_iload_n X (x_dr DX2_stepsOf 0 rfl) 0 rfl rfl ?_
  refine r_iconst (v := 2) X (x_dr DX2_stepsOf 1 rfl) (by decide) ?_
  refine r_icmp_ne X 17 (x_dr DX2_stepsOf 2 rfl) (by decide) (fun c1 => ?_) (fun c1 => ?_)
  · replace h := h.1 c1
    refine r_iload_n X (x_dr DX2_stepsOf 11 rfl) 0 rfl rfl ?_
    refine r_if_ne X 25 (x_dr DX2_stepsOf 12 rfl) (by decide) (fun c2 => ?_) (fun c2 => ?_)
    · replace h := h.1 c2
      refine r_iconst (v := 1) X (x_dr DX2_stepsOf 15 rfl) (by decide) ?_
      exact r_iret X rfl (x_dr DX2_stepsOf 16 rfl) ⟨_, rfl, h⟩
    · replace h := h.2 c2
      refine r_iconst (v := 2) X (x_dr DX2_stepsOf 13 rfl) (by decide) ?_
      refine r_goto X 26 (x_dr DX2_stepsOf 14 rfl) (by decide) ?_
      exact r_iret X rfl (x_dr DX2_stepsOf 16 rfl) ⟨_, rfl, h⟩
  · replace h := h.2 c1
    refine r_iload_n X (x_dr DX2_stepsOf 3 rfl) 1 rfl rfl ?_
    refine r_iconst (v := 2) X (x_dr DX2_stepsOf 4 rfl) (by decide) ?_
    obtain ⟨b3, h⟩ := h
    refine r_irem X (x_dr DX2_stepsOf 5 rfl) b3 ?_
    refine r_if_ne X 15 (x_dr DX2_stepsOf 6 rfl) (by decide) (fun c4 => ?_) (fun c4 => ?_)
    · replace h := h.1 c4
      refine r_iconst (v := 0) X (x_dr DX2_stepsOf 9 rfl) (by decide) ?_
      exact r_iret X rfl (x_dr DX2_stepsOf 10 rfl) ⟨_, rfl, h⟩
    · replace h := h.2 c4
      refine r_iconst (v := 1) X (x_dr DX2_stepsOf 7 rfl) (by decide) ?_
      refine r_goto X 16 (x_dr DX2_stepsOf 8 rfl) (by decide) ?_
      exact r_iret X rfl (x_dr DX2_stepsOf 10 rfl) ⟨_, rfl, h⟩
set_option maxRecDepth 10000 in
theorem k2_step {ad : xAd} {G : xG} {l : Launch} {o : Nat} {a1 : Int32} {σ : xSt} {Q : Int32 → xSt → Prop} (ho : x_cl o = 2) (h : d2_step o a1 σ Q) : MC ad G l yX2_step cX2_step 4 (some .boolean) 0 0 [.ref (ad o 0 0), .int a1] σ (qZ Q) := by
  unfold d2_step at h
  refine x_MC [(0, .ref (ad o 0 0)), (1, .int a1)] (by decide +kernel) rfl (Nat.le_of_ble_eq_true rfl) ?_
  intro E hG hl X
  replace X : FX ad E cX2_step 4 RX2 (some .boolean) 0 0 := X
  refine r_iload_n X (x_dr DX2_step 0 rfl) 1 rfl rfl ?_
  refine r_if_lt X 10 (x_dr DX2_step 1 rfl) (by decide) (fun c1 => ?_) (fun c1 => ?_)
  · replace h := h.1 c1
    refine r_iconst (v := 0) X (x_dr DX2_step 5 rfl) (by decide) ?_
    exact r_zret X rfl (x_dr DX2_step 6 rfl) (Or.inl rfl) ⟨_, rfl, (Or.inl rfl), h⟩
  · replace h := h.2 c1
    refine r_iload_n X (x_dr DX2_step 2 rfl) 1 rfl rfl ?_
    refine r_bipush (v := 8) X (x_dr DX2_step 3 rfl) (by decide) ?_
    refine r_icmp_lt X 12 (x_dr DX2_step 4 rfl) (by decide) (fun c2 => ?_) (fun c2 => ?_)
    · replace h := h.1 c2
      refine r_aload_n X (x_dr DX2_step 7 rfl) 0 rfl rfl ?_
      refine gf_2_21 X ho (x_dr DX2_step 8 rfl) ?_
      refine r_iload_n X (x_dr DX2_step 9 rfl) 1 rfl rfl ?_
      obtain ⟨b3, h⟩ := h
      refine r_iald X ho rfl b3 (x_dr DX2_step 10 rfl) ?_
      refine r_nmI (fun v4 ev4 => ?_)
      replace h := h v4 ev4
      refine r_istore_n X ([(2, .int v4), (0, .ref (ad o 0 0)), (1, .int a1)]) (x_dr DX2_step 11 rfl) rfl (by decide) rfl ?_
      refine r_iload_n X (x_dr DX2_step 12 rfl) 0 rfl rfl ?_
      refine r_istore_n X ([(3, .int v4), (2, .int v4), (0, .ref (ad o 0 0)), (1, .int a1)]) (x_dr DX2_step 13 rfl) rfl (by decide) rfl ?_
      refine r_iload_n X (x_dr DX2_step 14 rfl) 1 rfl rfl ?_
      obtain ⟨j12, ej12, h⟩ := x_jn h
      have Jj12 : ∀ (v11 : Int32), j12 v11 → KK ad E (qZ Q) 52 ([(0, .ref (ad o 0 0)), (1, .int a1), (2, .int v4), (3, .int v11)]) [] σ := by
        intro v11 h
        rw [ej12] at h
        refine r_iload_n X (x_dr DX2_step 34 rfl) 2 rfl rfl ?_
        obtain ⟨j20, ej20, h⟩ := x_jn h
        have Jj20 : ∀ (v19 : Int32), j20 v19 → KK ad E (qZ Q) 85 ([(0, .ref (ad o 0 0)), (1, .int a1), (2, .int v4), (3, .int v19)]) [] σ := by
          intro v19 h
          rw [ej20] at h
          refine r_iload_n X (x_dr DX2_step 56 rfl) 3 rfl rfl ?_
          refine r_iload_n X (x_dr DX2_step 57 rfl) 2 rfl rfl ?_
          refine r_icmp_ne X 92 (x_dr DX2_step 58 rfl) (by decide) (fun c21 => ?_) (fun c21 => ?_)
          · replace h := h.1 c21
            refine r_aload_n X (x_dr DX2_step 61 rfl) 0 rfl rfl ?_
            refine gf_2_21 X ho (x_dr DX2_step 62 rfl) ?_
            refine r_iload_n X (x_dr DX2_step 63 rfl) 1 rfl rfl ?_
            refine r_iload_n X (x_dr DX2_step 64 rfl) 3 rfl rfl ?_
            obtain ⟨b22, h⟩ := h
            refine r_iast X ho rfl b22 (x_dr DX2_step 65 rfl) ?_
            refine r_nmS (fun s23 es23 => ?_)
            replace h := h s23 es23
            refine r_aload_n X (x_dr DX2_step 66 rfl) 0 rfl rfl ?_
            refine r_dup X (x_dr DX2_step 67 rfl) rfl ?_
            refine gf_2_104 X ho (x_dr DX2_step 68 rfl) ?_
            refine r_iconst (v := 1) X (x_dr DX2_step 69 rfl) (by decide) ?_
            refine r_iload_n X (x_dr DX2_step 70 rfl) 1 rfl rfl ?_
            refine r_ishl X (x_dr DX2_step 71 rfl) ?_
            refine r_ior X (x_dr DX2_step 72 rfl) ?_
            refine pf_2_104 X ho (x_dr DX2_step 73 rfl) ?_
            refine r_nmS (fun s24 es24 => ?_)
            replace h := h s24 es24
            refine r_iconst (v := 1) X (x_dr DX2_step 74 rfl) (by decide) ?_
            exact r_zret X rfl (x_dr DX2_step 75 rfl) (Or.inr rfl) ⟨_, rfl, (Or.inr rfl), h⟩
          · replace h := h.2 c21
            refine r_iconst (v := 0) X (x_dr DX2_step 59 rfl) (by decide) ?_
            exact r_zret X rfl (x_dr DX2_step 60 rfl) (Or.inl rfl) ⟨_, rfl, (Or.inl rfl), h⟩
        refine r_if_lt X 85 (x_dr DX2_step 35 rfl) (by decide) (fun c25 => ?_) (fun c25 => ?_)
        · replace h := h.1 c25
          refine r_norm X [0, 1, 2, 3] ([(0, .ref (ad o 0 0)), (1, .int a1), (2, .int v4), (3, .int v11)]) rfl ?_
          exact Jj20 _ h
        · replace h := h.2 c25
          refine r_iload_n X (x_dr DX2_step 36 rfl) 2 rfl rfl ?_
          refine r_iconst (v := 1) X (x_dr DX2_step 37 rfl) (by decide) ?_
          refine r_iadd X (x_dr DX2_step 38 rfl) ?_
          refine r_bipush (v := 12) X (x_dr DX2_step 39 rfl) (by decide) ?_
          refine r_icmp_ge X 85 (x_dr DX2_step 40 rfl) (by decide) (fun c26 => ?_) (fun c26 => ?_)
          · replace h := h.1 c26
            refine r_norm X [0, 1, 2, 3] ([(0, .ref (ad o 0 0)), (1, .int a1), (2, .int v4), (3, .int v11)]) rfl ?_
            exact Jj20 _ h
          · replace h := h.2 c26
            refine r_aload_n X (x_dr DX2_step 41 rfl) 0 rfl rfl ?_
            refine gf_2_9 X ho (x_dr DX2_step 42 rfl) ?_
            refine r_iload_n X (x_dr DX2_step 43 rfl) 2 rfl rfl ?_
            refine r_iconst (v := 1) X (x_dr DX2_step 44 rfl) (by decide) ?_
            refine r_iadd X (x_dr DX2_step 45 rfl) ?_
            obtain ⟨b27, h⟩ := h
            refine r_iald X ho rfl b27 (x_dr DX2_step 46 rfl) ?_
            refine r_aload_n X (x_dr DX2_step 47 rfl) 0 rfl rfl ?_
            refine gf_2_9 X ho (x_dr DX2_step 48 rfl) ?_
            refine r_iload_n X (x_dr DX2_step 49 rfl) 3 rfl rfl ?_
            obtain ⟨b28, h⟩ := h
            refine r_iald X ho rfl b28 (x_dr DX2_step 50 rfl) ?_
            refine r_icmp_le X 85 (x_dr DX2_step 51 rfl) (by decide) (fun c29 => ?_) (fun c29 => ?_)
            · replace h := h.1 c29
              refine r_norm X [0, 1, 2, 3] ([(0, .ref (ad o 0 0)), (1, .int a1), (2, .int v4), (3, .int v11)]) rfl ?_
              exact Jj20 _ h
            · replace h := h.2 c29
              refine r_iload_n X (x_dr DX2_step 52 rfl) 2 rfl rfl ?_
              refine r_iconst (v := 1) X (x_dr DX2_step 53 rfl) (by decide) ?_
              refine r_iadd X (x_dr DX2_step 54 rfl) ?_
              refine r_nmI (fun v30 ev30 => ?_)
              replace h := h v30 ev30
              refine r_istore_n X ([(3, .int v30), (0, .ref (ad o 0 0)), (1, .int a1), (2, .int v4)]) (x_dr DX2_step 55 rfl) rfl (by decide) rfl ?_
              refine r_norm X [1, 2, 3, 0] ([(0, .ref (ad o 0 0)), (1, .int a1), (2, .int v4), (3, .int v30)]) rfl ?_
              exact Jj20 _ h
      refine r_if_le X 52 (x_dr DX2_step 15 rfl) (by decide) (fun c31 => ?_) (fun c31 => ?_)
      · replace h := h.1 c31
        refine r_norm X [2, 3, 1, 0] ([(0, .ref (ad o 0 0)), (1, .int a1), (2, .int v4), (3, .int v4)]) rfl ?_
        exact Jj12 _ h
      · replace h := h.2 c31
        refine r_iload_n X (x_dr DX2_step 16 rfl) 1 rfl rfl ?_
        refine r_bipush (v := 12) X (x_dr DX2_step 17 rfl) (by decide) ?_
        refine r_icmp_ge X 52 (x_dr DX2_step 18 rfl) (by decide) (fun c32 => ?_) (fun c32 => ?_)
        · replace h := h.1 c32
          refine r_norm X [2, 3, 1, 0] ([(0, .ref (ad o 0 0)), (1, .int a1), (2, .int v4), (3, .int v4)]) rfl ?_
          exact Jj12 _ h
        · replace h := h.2 c32
          refine r_aload_n X (x_dr DX2_step 19 rfl) 2 rfl rfl ?_
          refine gf_2_9 X ho (x_dr DX2_step 20 rfl) ?_
          refine r_iload_n X (x_dr DX2_step 21 rfl) 1 rfl rfl ?_
          refine r_iconst (v := 1) X (x_dr DX2_step 22 rfl) (by decide) ?_
          refine r_isub X (x_dr DX2_step 23 rfl) ?_
          obtain ⟨b33, h⟩ := h
          refine r_iald X ho rfl b33 (x_dr DX2_step 24 rfl) ?_
          refine r_aload_n X (x_dr DX2_step 25 rfl) 2 rfl rfl ?_
          refine gf_2_9 X ho (x_dr DX2_step 26 rfl) ?_
          refine r_iload_n X (x_dr DX2_step 27 rfl) 0 rfl rfl ?_
          obtain ⟨b34, h⟩ := h
          refine r_iald X ho rfl b34 (x_dr DX2_step 28 rfl) ?_
          refine r_icmp_le X 52 (x_dr DX2_step 29 rfl) (by decide) (fun c35 => ?_) (fun c35 => ?_)
          · replace h := h.1 c35
            refine r_norm X [2, 3, 1, 0] ([(0, .ref (ad o 0 0)), (1, .int a1), (2, .int v4), (3, .int v4)]) rfl ?_
            exact Jj12 _ h
          · replace h := h.2 c35
            refine r_iload_n X (x_dr DX2_step 30 rfl) 1 rfl rfl ?_
            refine r_iconst (v := 1) X (x_dr DX2_step 31 rfl) (by decide) ?_
            refine r_isub X (x_dr DX2_step 32 rfl) ?_
            refine r_nmI (fun v36 ev36 => ?_)
            replace h := h v36 ev36
            refine r_istore_n X ([(3, .int v36), (2, .int v4), (0, .ref (ad o 0 0)), (1, .int a1)]) (x_dr DX2_step 33 rfl) rfl (by decide) rfl ?_
            refine r_norm X [2, 3, 1, 0] ([(0, .ref (ad o 0 0)), (1, .int a1), (2, .int v4), (3, .int v36)]) rfl ?_
            exact Jj12 _ h
    · replace h := h.2 c2
      refine r_iconst (v := 0) X (x_dr DX2_step 5 rfl) (by decide) ?_
      exact r_zret X rfl (x_dr DX2_step 6 rfl) (Or.inl rfl) ⟨_, rfl, (Or.inl rfl), h⟩
set_option maxRecDepth 10000 in
theorem w2_passOver_L13 {ad : xAd} {E : xE} (X : FX ad E cX2_passOver 3 RX2 none 0 0) {o : Nat} (ho : x_cl o = 2) {a1 : Int32} {K : xSt → Prop} {Q : xSt → Prop} : ∀ (n : Nat) (a2 : Int32) (σ : xSt), d2_passOver_L13 o a1 K Q n a2 σ → (∀ (s : xSt), K  s → KK ad E (qV Q) 81 ([]) [] s) → KK ad E (qV Q) 13 ([(0, .ref (ad o 0 0)), (1, .int a1), (2, .int a2)]) [] σ := by
  intro n
  induction n with
  | zero => intro a2 σ h kk; exact h.elim
  | succ n ih =>
    intro a2 σ h kk
    rw [d2_passOver_L13] at h
    refine r_iload_n X (x_dr DX2_passOver 8 rfl) 2 rfl rfl ?_
    refine r_aload_n X (x_dr DX2_passOver 9 rfl) 0 rfl rfl ?_
    refine gf_2_103 X ho (x_dr DX2_passOver 10 rfl) ?_
    refine r_icmp_ge X 81 (x_dr DX2_passOver 11 rfl) (by decide) (fun c3 => ?_) (fun c3 => ?_)
    · replace h := h.1 c3
      refine r_norm X [] ([]) rfl ?_
      exact kk  _ h
    · replace h := h.2 c3
      refine r_iload_n X (x_dr DX2_passOver 12 rfl) 2 rfl rfl ?_
      refine r_iload_n X (x_dr DX2_passOver 13 rfl) 1 rfl rfl ?_
      refine r_icmp_eq X 75 (x_dr DX2_passOver 14 rfl) (by decide) (fun c4 => ?_) (fun c4 => ?_)
      · replace h := h.1 c4
        obtain ⟨v5, ev5⟩ : ∃ z : Int32, z = a2 + 1 := ⟨_, rfl⟩
        replace h := h v5 ev5
        refine r_iinc (v := v5) X ([(2, .int v5), (0, .ref (ad o 0 0)), (1, .int a1)]) 2 (x_dr DX2_passOver 48 rfl) rfl (by rw [ev5]; rfl) (by decide) rfl ?_
        refine r_goto X 13 (x_dr DX2_passOver 49 rfl) (by decide) ?_
        refine r_norm X [1, 2, 0] ([(0, .ref (ad o 0 0)), (1, .int a1), (2, .int v5)]) rfl ?_
        exact ih _ _ h kk
      · replace h := h.2 c4
        refine r_aload_n X (x_dr DX2_passOver 15 rfl) 0 rfl rfl ?_
        refine gf_2_21 X ho (x_dr DX2_passOver 16 rfl) ?_
        refine r_iload_n X (x_dr DX2_passOver 17 rfl) 2 rfl rfl ?_
        obtain ⟨b6, h⟩ := h
        refine r_iald X ho rfl b6 (x_dr DX2_passOver 18 rfl) ?_
        refine r_aload_n X (x_dr DX2_passOver 19 rfl) 0 rfl rfl ?_
        refine gf_2_21 X ho (x_dr DX2_passOver 20 rfl) ?_
        refine r_iload_n X (x_dr DX2_passOver 21 rfl) 1 rfl rfl ?_
        obtain ⟨b7, h⟩ := h
        refine r_iald X ho rfl b7 (x_dr DX2_passOver 22 rfl) ?_
        refine r_icmp_ne X 75 (x_dr DX2_passOver 23 rfl) (by decide) (fun c8 => ?_) (fun c8 => ?_)
        · replace h := h.1 c8
          obtain ⟨v9, ev9⟩ : ∃ z : Int32, z = a2 + 1 := ⟨_, rfl⟩
          replace h := h v9 ev9
          refine r_iinc (v := v9) X ([(2, .int v9), (0, .ref (ad o 0 0)), (1, .int a1)]) 2 (x_dr DX2_passOver 48 rfl) rfl (by rw [ev9]; rfl) (by decide) rfl ?_
          refine r_goto X 13 (x_dr DX2_passOver 49 rfl) (by decide) ?_
          refine r_norm X [1, 2, 0] ([(0, .ref (ad o 0 0)), (1, .int a1), (2, .int v9)]) rfl ?_
          exact ih _ _ h kk
        · replace h := h.2 c8
          refine r_aload_n X (x_dr DX2_passOver 24 rfl) 0 rfl rfl ?_
          refine gf_2_30 X ho (x_dr DX2_passOver 25 rfl) ?_
          refine r_iload_n X (x_dr DX2_passOver 26 rfl) 2 rfl rfl ?_
          obtain ⟨b10, h⟩ := h
          refine r_zald X ho rfl b10 (x_dr DX2_passOver 27 rfl) ?_
          refine r_if_ne X 75 (x_dr DX2_passOver 28 rfl) (by decide) (fun c11 => ?_) (fun c11 => ?_)
          · replace h := h.1 c11
            obtain ⟨v12, ev12⟩ : ∃ z : Int32, z = a2 + 1 := ⟨_, rfl⟩
            replace h := h v12 ev12
            refine r_iinc (v := v12) X ([(2, .int v12), (0, .ref (ad o 0 0)), (1, .int a1)]) 2 (x_dr DX2_passOver 48 rfl) rfl (by rw [ev12]; rfl) (by decide) rfl ?_
            refine r_goto X 13 (x_dr DX2_passOver 49 rfl) (by decide) ?_
            refine r_norm X [1, 2, 0] ([(0, .ref (ad o 0 0)), (1, .int a1), (2, .int v12)]) rfl ?_
            exact ih _ _ h kk
          · replace h := h.2 c11
            refine r_aload_n X (x_dr DX2_passOver 29 rfl) 0 rfl rfl ?_
            refine gf_2_24 X ho (x_dr DX2_passOver 30 rfl) ?_
            refine r_iload_n X (x_dr DX2_passOver 31 rfl) 2 rfl rfl ?_
            refine r_iconst (v := 1) X (x_dr DX2_passOver 32 rfl) (by decide) ?_
            refine r_aload_n X (x_dr DX2_passOver 33 rfl) 0 rfl rfl ?_
            refine gf_2_24 X ho (x_dr DX2_passOver 34 rfl) ?_
            refine r_iload_n X (x_dr DX2_passOver 35 rfl) 2 rfl rfl ?_
            obtain ⟨b13, h⟩ := h
            refine r_iald X ho rfl b13 (x_dr DX2_passOver 36 rfl) ?_
            refine r_isub X (x_dr DX2_passOver 37 rfl) ?_
            obtain ⟨b14, h⟩ := h
            refine r_iast X ho rfl b14 (x_dr DX2_passOver 38 rfl) ?_
            refine r_nmS (fun s15 es15 => ?_)
            replace h := h s15 es15
            refine r_aload_n X (x_dr DX2_passOver 39 rfl) 0 rfl rfl ?_
            refine gf_2_34 X ho (x_dr DX2_passOver 40 rfl) ?_
            refine r_iload_n X (x_dr DX2_passOver 41 rfl) 1 rfl rfl ?_
            refine r_dup2 X (x_dr DX2_passOver 42 rfl) rfl rfl ?_
            obtain ⟨b16, h⟩ := h
            refine r_iald X ho rfl b16 (x_dr DX2_passOver 43 rfl) ?_
            refine r_iconst (v := 1) X (x_dr DX2_passOver 44 rfl) (by decide) ?_
            refine r_iadd X (x_dr DX2_passOver 45 rfl) ?_
            obtain ⟨b17, h⟩ := h
            refine r_iast X ho rfl b17 (x_dr DX2_passOver 46 rfl) ?_
            refine r_nmS (fun s18 es18 => ?_)
            replace h := h s18 es18
            exact r_vret X rfl (x_dr DX2_passOver 47 rfl) ⟨rfl, h⟩
set_option maxRecDepth 10000 in
theorem k2_passOver {ad : xAd} {G : xG} {l : Launch} {o : Nat} {a1 : Int32} {σ : xSt} {Q : xSt → Prop} (ho : x_cl o = 2) (h : d2_passOver o a1 σ Q) : MC ad G l yX2_passOver cX2_passOver 3 none 0 0 [.ref (ad o 0 0), .int a1] σ (qV Q) := by
  unfold d2_passOver at h
  refine x_MC [(0, .ref (ad o 0 0)), (1, .int a1)] (by decide +kernel) rfl (Nat.le_of_ble_eq_true rfl) ?_
  intro E hG hl X
  replace X : FX ad E cX2_passOver 3 RX2 none 0 0 := X
  refine r_iload_n X (x_dr DX2_passOver 0 rfl) 1 rfl rfl ?_
  refine r_if_lt X 10 (x_dr DX2_passOver 1 rfl) (by decide) (fun c1 => ?_) (fun c1 => ?_)
  · replace h := h.1 c1
    exact r_vret X rfl (x_dr DX2_passOver 5 rfl) ⟨rfl, h⟩
  · replace h := h.2 c1
    refine r_iload_n X (x_dr DX2_passOver 2 rfl) 1 rfl rfl ?_
    refine r_bipush (v := 8) X (x_dr DX2_passOver 3 rfl) (by decide) ?_
    refine r_icmp_lt X 11 (x_dr DX2_passOver 4 rfl) (by decide) (fun c2 => ?_) (fun c2 => ?_)
    · replace h := h.1 c2
      refine r_iconst (v := 0) X (x_dr DX2_passOver 6 rfl) (by decide) ?_
      refine r_istore_n X ([(2, .int 0), (0, .ref (ad o 0 0)), (1, .int a1)]) (x_dr DX2_passOver 7 rfl) rfl (by decide) rfl ?_
      refine r_norm X [1, 2, 0] ([(0, .ref (ad o 0 0)), (1, .int a1), (2, .int 0)]) rfl ?_
      refine w2_passOver_L13 X ho _ _ _ h (fun s19 h => ?_)
      exact r_vret X rfl (x_dr DX2_passOver 50 rfl) ⟨rfl, h⟩
    · replace h := h.2 c2
      exact r_vret X rfl (x_dr DX2_passOver 5 rfl) ⟨rfl, h⟩
set_option maxRecDepth 10000 in
theorem w2_letMembersGo_L47 {ad : xAd} {E : xE} (X : FX ad E cX2_letMembersGo 5 RX2 none 1 23) {o : Nat} (ho : x_cl o = 2) {a1 : Int32} {a2 : Int32} {a3 : Int32} {K : xSt → Prop} {Q : xSt → Prop} : ∀ (n : Nat) (a4 : Int32) (σ : xSt), d2_letMembersGo_L47 o a1 a2 a3 K Q n a4 σ → (∀ (s : xSt), K  s → KK ad E (qV Q) 72 ([(0, .ref (ad o 0 0)), (1, .int a1), (2, .int a2)]) [] s) → KK ad E (qV Q) 47 ([(0, .ref (ad o 0 0)), (1, .int a1), (2, .int a2), (3, .int a3), (4, .int a4)]) [] σ := by
  intro n
  induction n with
  | zero => intro a4 σ h kk; exact h.elim
  | succ n ih =>
    intro a4 σ h kk
    rw [d2_letMembersGo_L47] at h
    refine r_iload X (x_dr DX2_letMembersGo 28 rfl) 4 rfl ?_
    refine r_iload_n X (x_dr DX2_letMembersGo 29 rfl) 3 rfl rfl ?_
    refine r_icmp_ge X 72 (x_dr DX2_letMembersGo 30 rfl) (by decide) (fun c12 => ?_) (fun c12 => ?_)
    · replace h := h.1 c12
      refine r_norm X [0, 1, 2] ([(0, .ref (ad o 0 0)), (1, .int a1), (2, .int a2)]) rfl ?_
      exact kk  _ h
    · replace h := h.2 c12
      refine r_aload_n X (x_dr DX2_letMembersGo 31 rfl) 0 rfl rfl ?_
      refine r_iload_n X (x_dr DX2_letMembersGo 32 rfl) 2 rfl rfl ?_
      refine cl2_step X (k2_step ho h) ho ml_2_134 ⟨Nat.le_of_ble_eq_true rfl, Nat.le_of_ble_eq_true rfl⟩ (Nat.le_of_ble_eq_true rfl) (x_dr DX2_letMembersGo 33 rfl) (fun v14 s13 zv14 h => ?_)
      refine r_if_eq X 66 (x_dr DX2_letMembersGo 34 rfl) (by decide) (fun c15 => ?_) (fun c15 => ?_)
      · replace h := h.1 c15
        obtain ⟨v16, ev16⟩ : ∃ z : Int32, z = a4 + 1 := ⟨_, rfl⟩
        replace h := h v16 ev16
        refine r_iinc (v := v16) X ([(4, .int v16), (0, .ref (ad o 0 0)), (1, .int a1), (2, .int a2), (3, .int a3)]) 4 (x_dr DX2_letMembersGo 38 rfl) rfl (by rw [ev16]; rfl) (by decide) rfl ?_
        refine r_goto X 47 (x_dr DX2_letMembersGo 39 rfl) (by decide) ?_
        refine r_norm X [1, 2, 3, 4, 0] ([(0, .ref (ad o 0 0)), (1, .int a1), (2, .int a2), (3, .int a3), (4, .int v16)]) rfl ?_
        exact ih _ _ h kk
      · replace h := h.2 c15
        refine r_aload_n X (x_dr DX2_letMembersGo 35 rfl) 0 rfl rfl ?_
        refine r_iload_n X (x_dr DX2_letMembersGo 36 rfl) 2 rfl rfl ?_
        refine cl2_passOver X (k2_passOver ho h) ho ml_2_138 ⟨Nat.le_of_ble_eq_true rfl, Nat.le_of_ble_eq_true rfl⟩ (Nat.le_of_ble_eq_true rfl) (x_dr DX2_letMembersGo 37 rfl) (fun s17 h => ?_)
        obtain ⟨v18, ev18⟩ : ∃ z : Int32, z = a4 + 1 := ⟨_, rfl⟩
        replace h := h v18 ev18
        refine r_iinc (v := v18) X ([(4, .int v18), (0, .ref (ad o 0 0)), (1, .int a1), (2, .int a2), (3, .int a3)]) 4 (x_dr DX2_letMembersGo 38 rfl) rfl (by rw [ev18]; rfl) (by decide) rfl ?_
        refine r_goto X 47 (x_dr DX2_letMembersGo 39 rfl) (by decide) ?_
        refine r_norm X [1, 2, 3, 4, 0] ([(0, .ref (ad o 0 0)), (1, .int a1), (2, .int a2), (3, .int a3), (4, .int v18)]) rfl ?_
        exact ih _ _ h kk
set_option maxRecDepth 10000 in
theorem w2_letMembersGo_L2 {ad : xAd} {E : xE} (X : FX ad E cX2_letMembersGo 5 RX2 none 1 23) {o : Nat} (ho : x_cl o = 2) {a1 : Int32} {K : xSt → Prop} {Q : xSt → Prop} : ∀ (n : Nat) (a2 : Int32) (σ : xSt), d2_letMembersGo_L2 o a1 K Q n a2 σ → (∀ (s : xSt), K  s → KK ad E (qV Q) 78 ([]) [] s) → KK ad E (qV Q) 2 ([(0, .ref (ad o 0 0)), (1, .int a1), (2, .int a2)]) [] σ := by
  intro n
  induction n with
  | zero => intro a2 σ h kk; exact h.elim
  | succ n ih =>
    intro a2 σ h kk
    rw [d2_letMembersGo_L2] at h
    refine r_iload_n X (x_dr DX2_letMembersGo 2 rfl) 2 rfl rfl ?_
    refine r_aload_n X (x_dr DX2_letMembersGo 3 rfl) 0 rfl rfl ?_
    refine gf_2_103 X ho (x_dr DX2_letMembersGo 4 rfl) ?_
    refine r_icmp_ge X 78 (x_dr DX2_letMembersGo 5 rfl) (by decide) (fun c1 => ?_) (fun c1 => ?_)
    · replace h := h.1 c1
      refine r_norm X [] ([]) rfl ?_
      exact kk  _ h
    · replace h := h.2 c1
      refine r_aload_n X (x_dr DX2_letMembersGo 6 rfl) 0 rfl rfl ?_
      refine gf_2_24 X ho (x_dr DX2_letMembersGo 7 rfl) ?_
      refine r_iload_n X (x_dr DX2_letMembersGo 8 rfl) 2 rfl rfl ?_
      obtain ⟨b2, h⟩ := h
      refine r_iald X ho rfl b2 (x_dr DX2_letMembersGo 9 rfl) ?_
      refine r_iconst (v := 1) X (x_dr DX2_letMembersGo 10 rfl) (by decide) ?_
      obtain ⟨j11, ej11, h⟩ := x_jn h
      have Jj11 : ∀ (v9 : Int32) (s10 : xSt), j11 v9 s10 → KK ad E (qV Q) 43 ([(0, .ref (ad o 0 0)), (1, .int a1), (2, .int a2)]) [.int v9] s10 := by
        intro v9 s10 h
        rw [ej11] at h
        refine r_istore_n X ([(3, .int v9), (0, .ref (ad o 0 0)), (1, .int a1), (2, .int a2)]) (x_dr DX2_letMembersGo 25 rfl) rfl (by decide) rfl ?_
        refine r_iconst (v := 0) X (x_dr DX2_letMembersGo 26 rfl) (by decide) ?_
        refine r_istore X ([(4, .int 0), (3, .int v9), (0, .ref (ad o 0 0)), (1, .int a1), (2, .int a2)]) (x_dr DX2_letMembersGo 27 rfl) (by decide) rfl ?_
        refine r_norm X [2, 3, 4, 1, 0] ([(0, .ref (ad o 0 0)), (1, .int a1), (2, .int a2), (3, .int v9), (4, .int 0)]) rfl ?_
        refine w2_letMembersGo_L47 X ho _ _ _ h (fun s19 h => ?_)
        obtain ⟨v20, ev20⟩ : ∃ z : Int32, z = a2 + 1 := ⟨_, rfl⟩
        replace h := h v20 ev20
        refine r_iinc (v := v20) X ([(2, .int v20), (0, .ref (ad o 0 0)), (1, .int a1)]) 2 (x_dr DX2_letMembersGo 40 rfl) rfl (by rw [ev20]; rfl) (by decide) rfl ?_
        refine r_goto X 2 (x_dr DX2_letMembersGo 41 rfl) (by decide) ?_
        refine r_norm X [1, 2, 0] ([(0, .ref (ad o 0 0)), (1, .int a1), (2, .int v20)]) rfl ?_
        exact ih _ _ h kk
      refine r_icmp_ne X 42 (x_dr DX2_letMembersGo 11 rfl) (by decide) (fun c21 => ?_) (fun c21 => ?_)
      · replace h := h.1 c21
        refine r_iconst (v := 0) X (x_dr DX2_letMembersGo 24 rfl) (by decide) ?_
        refine r_norm X [0, 1, 2] ([(0, .ref (ad o 0 0)), (1, .int a1), (2, .int a2)]) rfl ?_
        exact Jj11 _ _ h
      · replace h := h.2 c21
        refine r_aload_n X (x_dr DX2_letMembersGo 12 rfl) 0 rfl rfl ?_
        refine gf_2_30 X ho (x_dr DX2_letMembersGo 13 rfl) ?_
        refine r_iload_n X (x_dr DX2_letMembersGo 14 rfl) 2 rfl rfl ?_
        obtain ⟨b22, h⟩ := h
        refine r_zald X ho rfl b22 (x_dr DX2_letMembersGo 15 rfl) ?_
        refine r_if_ne X 42 (x_dr DX2_letMembersGo 16 rfl) (by decide) (fun c23 => ?_) (fun c23 => ?_)
        · replace h := h.1 c23
          refine r_iconst (v := 0) X (x_dr DX2_letMembersGo 24 rfl) (by decide) ?_
          refine r_norm X [0, 1, 2] ([(0, .ref (ad o 0 0)), (1, .int a1), (2, .int a2)]) rfl ?_
          exact Jj11 _ _ h
        · replace h := h.2 c23
          refine r_aload_n X (x_dr DX2_letMembersGo 17 rfl) 0 rfl rfl ?_
          refine gf_2_18 X ho (x_dr DX2_letMembersGo 18 rfl) ?_
          refine r_iload_n X (x_dr DX2_letMembersGo 19 rfl) 2 rfl rfl ?_
          obtain ⟨b24, h⟩ := h
          refine r_iald X ho rfl b24 (x_dr DX2_letMembersGo 20 rfl) ?_
          refine r_iload_n X (x_dr DX2_letMembersGo 21 rfl) 1 rfl rfl ?_
          refine cl2_stepsOf X (k2_stepsOf h) ml_2_131 ⟨Nat.le_of_ble_eq_true rfl, Nat.le_of_ble_eq_true rfl⟩ (Nat.le_of_ble_eq_true rfl) (x_dr DX2_letMembersGo 22 rfl) (fun v26 s25 h => ?_)
          refine r_goto X 43 (x_dr DX2_letMembersGo 23 rfl) (by decide) ?_
          refine r_norm X [0, 1, 2] ([(0, .ref (ad o 0 0)), (1, .int a1), (2, .int a2)]) rfl ?_
          exact Jj11 _ _ h
set_option maxRecDepth 10000 in
theorem k2_letMembersGo {ad : xAd} {G : xG} {l : Launch} {o : Nat} {a1 : Int32} {σ : xSt} {Q : xSt → Prop} (ho : x_cl o = 2) (h : d2_letMembersGo o a1 σ Q) : MC ad G l yX2_letMembersGo cX2_letMembersGo 5 none 1 23 [.ref (ad o 0 0), .int a1] σ (qV Q) := by
  unfold d2_letMembersGo at h
  refine x_MC [(0, .ref (ad o 0 0)), (1, .int a1)] (by decide +kernel) rfl (Nat.le_of_ble_eq_true rfl) ?_
  intro E hG hl X
  replace X : FX ad E cX2_letMembersGo 5 RX2 none 1 23 := X
  refine r_iconst (v := 0) X (x_dr DX2_letMembersGo 0 rfl) (by decide) ?_
  refine r_istore_n X ([(2, .int 0), (0, .ref (ad o 0 0)), (1, .int a1)]) (x_dr DX2_letMembersGo 1 rfl) rfl (by decide) rfl ?_
  refine r_norm X [1, 2, 0] ([(0, .ref (ad o 0 0)), (1, .int a1), (2, .int 0)]) rfl ?_
  refine w2_letMembersGo_L2 X ho _ _ _ h (fun s27 h => ?_)
  exact r_vret X rfl (x_dr DX2_letMembersGo 42 rfl) ⟨rfl, h⟩
set_option maxRecDepth 10000 in
theorem w2_countHeads_L2 {ad : xAd} {E : xE} (X : FX ad E cX2_countHeads 3 RX2 none 1 20) {o : Nat} (ho : x_cl o = 2) {K : xSt → Prop} {Q : xSt → Prop} : ∀ (n : Nat) (a1 : Int32) (σ : xSt), d2_countHeads_L2 o K Q n a1 σ → (∀ (s : xSt), K  s → KK ad E (qV Q) 21 ([(0, .ref (ad o 0 0))]) [] s) → KK ad E (qV Q) 2 ([(0, .ref (ad o 0 0)), (1, .int a1)]) [] σ := by
  intro n
  induction n with
  | zero => intro a1 σ h kk; exact h.elim
  | succ n ih =>
    intro a1 σ h kk
    rw [d2_countHeads_L2] at h
    refine r_iload_n X (x_dr DX2_countHeads 2 rfl) 1 rfl rfl ?_
    refine r_bipush (v := 12) X (x_dr DX2_countHeads 3 rfl) (by decide) ?_
    refine r_icmp_ge X 21 (x_dr DX2_countHeads 4 rfl) (by decide) (fun c1 => ?_) (fun c1 => ?_)
    · replace h := h.1 c1
      refine r_norm X [0] ([(0, .ref (ad o 0 0))]) rfl ?_
      exact kk  _ h
    · replace h := h.2 c1
      refine r_aload_n X (x_dr DX2_countHeads 5 rfl) 0 rfl rfl ?_
      refine gf_2_15 X ho (x_dr DX2_countHeads 6 rfl) ?_
      refine r_iload_n X (x_dr DX2_countHeads 7 rfl) 1 rfl rfl ?_
      refine r_iconst (v := 0) X (x_dr DX2_countHeads 8 rfl) (by decide) ?_
      obtain ⟨b2, h⟩ := h
      refine r_iast X ho rfl b2 (x_dr DX2_countHeads 9 rfl) ?_
      refine r_nmS (fun s3 es3 => ?_)
      replace h := h s3 es3
      obtain ⟨v4, ev4⟩ : ∃ z : Int32, z = a1 + 1 := ⟨_, rfl⟩
      replace h := h v4 ev4
      refine r_iinc (v := v4) X ([(1, .int v4), (0, .ref (ad o 0 0))]) 1 (x_dr DX2_countHeads 10 rfl) rfl (by rw [ev4]; rfl) (by decide) rfl ?_
      refine r_goto X 2 (x_dr DX2_countHeads 11 rfl) (by decide) ?_
      refine r_norm X [1, 0] ([(0, .ref (ad o 0 0)), (1, .int v4)]) rfl ?_
      exact ih _ _ h kk
set_option maxRecDepth 10000 in
theorem w2_countHeads_L23 {ad : xAd} {E : xE} (X : FX ad E cX2_countHeads 3 RX2 none 1 20) {o : Nat} (ho : x_cl o = 2) {K : xSt → Prop} {Q : xSt → Prop} : ∀ (n : Nat) (a1 : Int32) (σ : xSt), d2_countHeads_L23 o K Q n a1 σ → (∀ (s : xSt), K  s → KK ad E (qV Q) 61 ([]) [] s) → KK ad E (qV Q) 23 ([(0, .ref (ad o 0 0)), (1, .int a1)]) [] σ := by
  intro n
  induction n with
  | zero => intro a1 σ h kk; exact h.elim
  | succ n ih =>
    intro a1 σ h kk
    rw [d2_countHeads_L23] at h
    refine r_iload_n X (x_dr DX2_countHeads 14 rfl) 1 rfl rfl ?_
    refine r_aload_n X (x_dr DX2_countHeads 15 rfl) 0 rfl rfl ?_
    refine gf_2_103 X ho (x_dr DX2_countHeads 16 rfl) ?_
    refine r_icmp_ge X 61 (x_dr DX2_countHeads 17 rfl) (by decide) (fun c6 => ?_) (fun c6 => ?_)
    · replace h := h.1 c6
      refine r_norm X [] ([]) rfl ?_
      exact kk  _ h
    · replace h := h.2 c6
      refine r_aload_n X (x_dr DX2_countHeads 18 rfl) 0 rfl rfl ?_
      refine gf_2_21 X ho (x_dr DX2_countHeads 19 rfl) ?_
      refine r_iload_n X (x_dr DX2_countHeads 20 rfl) 1 rfl rfl ?_
      obtain ⟨b7, h⟩ := h
      refine r_iald X ho rfl b7 (x_dr DX2_countHeads 21 rfl) ?_
      refine r_nmI (fun v8 ev8 => ?_)
      replace h := h v8 ev8
      refine r_istore_n X ([(2, .int v8), (0, .ref (ad o 0 0)), (1, .int a1)]) (x_dr DX2_countHeads 22 rfl) rfl (by decide) rfl ?_
      refine r_iload_n X (x_dr DX2_countHeads 23 rfl) 0 rfl rfl ?_
      refine cl6_isPlace_N X (k6_isPlace h) (x_nm_mem 6 rfl) ⟨Nat.le_of_ble_eq_true rfl, Nat.le_of_ble_eq_true rfl⟩ (Nat.le_of_ble_eq_true rfl) (x_dr DX2_countHeads 24 rfl) (fun v10 s9 zv10 h => ?_)
      refine r_if_eq X 55 (x_dr DX2_countHeads 25 rfl) (by decide) (fun c11 => ?_) (fun c11 => ?_)
      · replace h := h.1 c11
        obtain ⟨v12, ev12⟩ : ∃ z : Int32, z = a1 + 1 := ⟨_, rfl⟩
        replace h := h v12 ev12
        refine r_iinc (v := v12) X ([(1, .int v12), (2, .int v8), (0, .ref (ad o 0 0))]) 2 (x_dr DX2_countHeads 34 rfl) rfl (by rw [ev12]; rfl) (by decide) rfl ?_
        refine r_goto X 23 (x_dr DX2_countHeads 35 rfl) (by decide) ?_
        refine r_norm X [2, 0] ([(0, .ref (ad o 0 0)), (1, .int v12)]) rfl ?_
        exact ih _ _ h kk
      · replace h := h.2 c11
        refine r_aload_n X (x_dr DX2_countHeads 26 rfl) 1 rfl rfl ?_
        refine gf_2_15 X ho (x_dr DX2_countHeads 27 rfl) ?_
        refine r_iload_n X (x_dr DX2_countHeads 28 rfl) 0 rfl rfl ?_
        refine r_dup2 X (x_dr DX2_countHeads 29 rfl) rfl rfl ?_
        obtain ⟨b13, h⟩ := h
        refine r_iald X ho rfl b13 (x_dr DX2_countHeads 30 rfl) ?_
        refine r_iconst (v := 1) X (x_dr DX2_countHeads 31 rfl) (by decide) ?_
        refine r_iadd X (x_dr DX2_countHeads 32 rfl) ?_
        obtain ⟨b14, h⟩ := h
        refine r_iast X ho rfl b14 (x_dr DX2_countHeads 33 rfl) ?_
        refine r_nmS (fun s15 es15 => ?_)
        replace h := h s15 es15
        obtain ⟨v16, ev16⟩ : ∃ z : Int32, z = a1 + 1 := ⟨_, rfl⟩
        replace h := h v16 ev16
        refine r_iinc (v := v16) X ([(1, .int v16), (2, .int v8), (0, .ref (ad o 0 0))]) 2 (x_dr DX2_countHeads 34 rfl) rfl (by rw [ev16]; rfl) (by decide) rfl ?_
        refine r_goto X 23 (x_dr DX2_countHeads 35 rfl) (by decide) ?_
        refine r_norm X [2, 0] ([(0, .ref (ad o 0 0)), (1, .int v16)]) rfl ?_
        exact ih _ _ h kk
set_option maxRecDepth 10000 in
theorem k2_countHeads {ad : xAd} {G : xG} {l : Launch} {o : Nat} {σ : xSt} {Q : xSt → Prop} (ho : x_cl o = 2) (h : d2_countHeads o σ Q) : MC ad G l yX2_countHeads cX2_countHeads 3 none 1 20 [.ref (ad o 0 0)] σ (qV Q) := by
  unfold d2_countHeads at h
  refine x_MC [(0, .ref (ad o 0 0))] (by decide +kernel) rfl (Nat.le_of_ble_eq_true rfl) ?_
  intro E hG hl X
  replace X : FX ad E cX2_countHeads 3 RX2 none 1 20 := X
  refine r_iconst (v := 0) X (x_dr DX2_countHeads 0 rfl) (by decide) ?_
  refine r_istore_n X ([(1, .int 0), (0, .ref (ad o 0 0))]) (x_dr DX2_countHeads 1 rfl) rfl (by decide) rfl ?_
  refine r_norm X [1, 0] ([(0, .ref (ad o 0 0)), (1, .int 0)]) rfl ?_
  refine w2_countHeads_L2 X ho _ _ _ h (fun s5 h => ?_)
  refine r_iconst (v := 0) X (x_dr DX2_countHeads 12 rfl) (by decide) ?_
  refine r_istore_n X ([(1, .int 0), (0, .ref (ad o 0 0))]) (x_dr DX2_countHeads 13 rfl) rfl (by decide) rfl ?_
  refine r_norm X [1, 0] ([(0, .ref (ad o 0 0)), (1, .int 0)]) rfl ?_
  refine w2_countHeads_L23 X ho _ _ _ h (fun s17 h => ?_)
  exact r_vret X rfl (x_dr DX2_countHeads 36 rfl) ⟨rfl, h⟩
set_option maxRecDepth 10000 in
theorem w2_dryCrowdedPlaces_L2 {ad : xAd} {E : xE} (X : FX ad E cX2_dryCrowdedPlaces 2 RX2 none 0 0) {o : Nat} (ho : x_cl o = 2) {K : xSt → Prop} {Q : xSt → Prop} : ∀ (n : Nat) (a1 : Int32) (σ : xSt), d2_dryCrowdedPlaces_L2 o K Q n a1 σ → (∀ (s : xSt), K  s → KK ad E (qV Q) 43 ([]) [] s) → KK ad E (qV Q) 2 ([(0, .ref (ad o 0 0)), (1, .int a1)]) [] σ := by
  intro n
  induction n with
  | zero => intro a1 σ h kk; exact h.elim
  | succ n ih =>
    intro a1 σ h kk
    rw [d2_dryCrowdedPlaces_L2] at h
    refine r_iload_n X (x_dr DX2_dryCrowdedPlaces 2 rfl) 1 rfl rfl ?_
    refine r_bipush (v := 12) X (x_dr DX2_dryCrowdedPlaces 3 rfl) (by decide) ?_
    refine r_icmp_ge X 43 (x_dr DX2_dryCrowdedPlaces 4 rfl) (by decide) (fun c1 => ?_) (fun c1 => ?_)
    · replace h := h.1 c1
      refine r_norm X [] ([]) rfl ?_
      exact kk  _ h
    · replace h := h.2 c1
      refine r_aload_n X (x_dr DX2_dryCrowdedPlaces 5 rfl) 0 rfl rfl ?_
      refine gf_2_15 X ho (x_dr DX2_dryCrowdedPlaces 6 rfl) ?_
      refine r_iload_n X (x_dr DX2_dryCrowdedPlaces 7 rfl) 1 rfl rfl ?_
      obtain ⟨b2, h⟩ := h
      refine r_iald X ho rfl b2 (x_dr DX2_dryCrowdedPlaces 8 rfl) ?_
      refine r_iconst (v := 3) X (x_dr DX2_dryCrowdedPlaces 9 rfl) (by decide) ?_
      refine r_icmp_lt X 37 (x_dr DX2_dryCrowdedPlaces 10 rfl) (by decide) (fun c3 => ?_) (fun c3 => ?_)
      · replace h := h.1 c3
        obtain ⟨v4, ev4⟩ : ∃ z : Int32, z = a1 + 1 := ⟨_, rfl⟩
        replace h := h v4 ev4
        refine r_iinc (v := v4) X ([(1, .int v4), (0, .ref (ad o 0 0))]) 1 (x_dr DX2_dryCrowdedPlaces 24 rfl) rfl (by rw [ev4]; rfl) (by decide) rfl ?_
        refine r_goto X 2 (x_dr DX2_dryCrowdedPlaces 25 rfl) (by decide) ?_
        refine r_norm X [1, 0] ([(0, .ref (ad o 0 0)), (1, .int v4)]) rfl ?_
        exact ih _ _ h kk
      · replace h := h.2 c3
        refine r_aload_n X (x_dr DX2_dryCrowdedPlaces 11 rfl) 0 rfl rfl ?_
        refine gf_2_9 X ho (x_dr DX2_dryCrowdedPlaces 12 rfl) ?_
        refine r_iload_n X (x_dr DX2_dryCrowdedPlaces 13 rfl) 1 rfl rfl ?_
        obtain ⟨b5, h⟩ := h
        refine r_iald X ho rfl b5 (x_dr DX2_dryCrowdedPlaces 14 rfl) ?_
        refine r_if_le X 37 (x_dr DX2_dryCrowdedPlaces 15 rfl) (by decide) (fun c6 => ?_) (fun c6 => ?_)
        · replace h := h.1 c6
          obtain ⟨v7, ev7⟩ : ∃ z : Int32, z = a1 + 1 := ⟨_, rfl⟩
          replace h := h v7 ev7
          refine r_iinc (v := v7) X ([(1, .int v7), (0, .ref (ad o 0 0))]) 1 (x_dr DX2_dryCrowdedPlaces 24 rfl) rfl (by rw [ev7]; rfl) (by decide) rfl ?_
          refine r_goto X 2 (x_dr DX2_dryCrowdedPlaces 25 rfl) (by decide) ?_
          refine r_norm X [1, 0] ([(0, .ref (ad o 0 0)), (1, .int v7)]) rfl ?_
          exact ih _ _ h kk
        · replace h := h.2 c6
          refine r_aload_n X (x_dr DX2_dryCrowdedPlaces 16 rfl) 0 rfl rfl ?_
          refine gf_2_9 X ho (x_dr DX2_dryCrowdedPlaces 17 rfl) ?_
          refine r_iload_n X (x_dr DX2_dryCrowdedPlaces 18 rfl) 1 rfl rfl ?_
          refine r_dup2 X (x_dr DX2_dryCrowdedPlaces 19 rfl) rfl rfl ?_
          obtain ⟨b8, h⟩ := h
          refine r_iald X ho rfl b8 (x_dr DX2_dryCrowdedPlaces 20 rfl) ?_
          refine r_iconst (v := 1) X (x_dr DX2_dryCrowdedPlaces 21 rfl) (by decide) ?_
          refine r_isub X (x_dr DX2_dryCrowdedPlaces 22 rfl) ?_
          obtain ⟨b9, h⟩ := h
          refine r_iast X ho rfl b9 (x_dr DX2_dryCrowdedPlaces 23 rfl) ?_
          refine r_nmS (fun s10 es10 => ?_)
          replace h := h s10 es10
          obtain ⟨v11, ev11⟩ : ∃ z : Int32, z = a1 + 1 := ⟨_, rfl⟩
          replace h := h v11 ev11
          refine r_iinc (v := v11) X ([(1, .int v11), (0, .ref (ad o 0 0))]) 1 (x_dr DX2_dryCrowdedPlaces 24 rfl) rfl (by rw [ev11]; rfl) (by decide) rfl ?_
          refine r_goto X 2 (x_dr DX2_dryCrowdedPlaces 25 rfl) (by decide) ?_
          refine r_norm X [1, 0] ([(0, .ref (ad o 0 0)), (1, .int v11)]) rfl ?_
          exact ih _ _ h kk
set_option maxRecDepth 10000 in
theorem k2_dryCrowdedPlaces {ad : xAd} {G : xG} {l : Launch} {o : Nat} {σ : xSt} {Q : xSt → Prop} (ho : x_cl o = 2) (h : d2_dryCrowdedPlaces o σ Q) : MC ad G l yX2_dryCrowdedPlaces cX2_dryCrowdedPlaces 2 none 0 0 [.ref (ad o 0 0)] σ (qV Q) := by
  unfold d2_dryCrowdedPlaces at h
  refine x_MC [(0, .ref (ad o 0 0))] (by decide +kernel) rfl (Nat.le_of_ble_eq_true rfl) ?_
  intro E hG hl X
  replace X : FX ad E cX2_dryCrowdedPlaces 2 RX2 none 0 0 := X
  refine r_iconst (v := 0) X (x_dr DX2_dryCrowdedPlaces 0 rfl) (by decide) ?_
  refine r_istore_n X ([(1, .int 0), (0, .ref (ad o 0 0))]) (x_dr DX2_dryCrowdedPlaces 1 rfl) rfl (by decide) rfl ?_
  refine r_norm X [1, 0] ([(0, .ref (ad o 0 0)), (1, .int 0)]) rfl ?_
  refine w2_dryCrowdedPlaces_L2 X ho _ _ _ h (fun s12 h => ?_)
  exact r_vret X rfl (x_dr DX2_dryCrowdedPlaces 26 rfl) ⟨rfl, h⟩
set_option maxRecDepth 10000 in
theorem k6_isHour {ad : xAd} {G : xG} {l : Launch} {a0 : Int32} {σ : xSt} {Q : Int32 → xSt → Prop}  (h : d6_isHour a0 σ Q) : MC ad G l yX6_isHour cX6_isHour 1 (some .boolean) 0 0 [.int a0] σ (qZ Q) := by
  unfold d6_isHour at h
  refine x_MC [(0, .int a0)] (by decide +kernel) rfl (Nat.le_of_ble_eq_true rfl) ?_
  intro E hG hl X
  replace X : FX ad E cX6_isHour 1 RX6 (some .boolean) 0 0 := X
  refine r_iload_n X (x_dr DX6_isHour 0 rfl) 0 rfl rfl ?_
  refine r_if_lt X 14 (x_dr DX6_isHour 1 rfl) (by decide) (fun c1 => ?_) (fun c1 => ?_)
  · replace h := h.1 c1
    refine r_iconst (v := 0) X (x_dr DX6_isHour 7 rfl) (by decide) ?_
    exact r_zret X rfl (x_dr DX6_isHour 8 rfl) (Or.inl rfl) ⟨_, rfl, (Or.inl rfl), h⟩
  · replace h := h.2 c1
    refine r_iload_n X (x_dr DX6_isHour 2 rfl) 0 rfl rfl ?_
    refine r_bipush (v := 20) X (x_dr DX6_isHour 3 rfl) (by decide) ?_
    refine r_icmp_ge X 14 (x_dr DX6_isHour 4 rfl) (by decide) (fun c2 => ?_) (fun c2 => ?_)
    · replace h := h.1 c2
      refine r_iconst (v := 0) X (x_dr DX6_isHour 7 rfl) (by decide) ?_
      exact r_zret X rfl (x_dr DX6_isHour 8 rfl) (Or.inl rfl) ⟨_, rfl, (Or.inl rfl), h⟩
    · replace h := h.2 c2
      refine r_iconst (v := 1) X (x_dr DX6_isHour 5 rfl) (by decide) ?_
      refine r_goto X 15 (x_dr DX6_isHour 6 rfl) (by decide) ?_
      exact r_zret X rfl (x_dr DX6_isHour 8 rfl) (Or.inr rfl) ⟨_, rfl, (Or.inr rfl), h⟩
set_option maxRecDepth 10000 in
theorem w2_divide_L24 {ad : xAd} {E : xE} (X : FX ad E cX2_divide 3 RX2 none 1 20) {o : Nat} (ho : x_cl o = 2) {a1 : Int32} {K : xSt → Prop} {Q : xSt → Prop} : ∀ (n : Nat) (a2 : Int32) (σ : xSt), d2_divide_L24 o a1 K Q n a2 σ → (∀ (s : xSt), K  s → KK ad E (qV Q) 79 ([]) [] s) → KK ad E (qV Q) 24 ([(0, .ref (ad o 0 0)), (1, .int a1), (2, .int a2)]) [] σ := by
  intro n
  induction n with
  | zero => intro a2 σ h kk; exact h.elim
  | succ n ih =>
    intro a2 σ h kk
    rw [d2_divide_L24] at h
    refine r_iload_n X (x_dr DX2_divide 16 rfl) 2 rfl rfl ?_
    refine r_aload_n X (x_dr DX2_divide 17 rfl) 0 rfl rfl ?_
    refine gf_2_103 X ho (x_dr DX2_divide 18 rfl) ?_
    refine r_icmp_ge X 79 (x_dr DX2_divide 19 rfl) (by decide) (fun c8 => ?_) (fun c8 => ?_)
    · replace h := h.1 c8
      refine r_norm X [] ([]) rfl ?_
      exact kk  _ h
    · replace h := h.2 c8
      refine r_aload_n X (x_dr DX2_divide 20 rfl) 0 rfl rfl ?_
      refine gf_2_30 X ho (x_dr DX2_divide 21 rfl) ?_
      refine r_iload_n X (x_dr DX2_divide 22 rfl) 2 rfl rfl ?_
      obtain ⟨b9, h⟩ := h
      refine r_zald X ho rfl b9 (x_dr DX2_divide 23 rfl) ?_
      refine r_if_ne X 73 (x_dr DX2_divide 24 rfl) (by decide) (fun c10 => ?_) (fun c10 => ?_)
      · replace h := h.1 c10
        obtain ⟨v11, ev11⟩ : ∃ z : Int32, z = a2 + 1 := ⟨_, rfl⟩
        replace h := h v11 ev11
        refine r_iinc (v := v11) X ([(2, .int v11), (0, .ref (ad o 0 0)), (1, .int a1)]) 2 (x_dr DX2_divide 49 rfl) rfl (by rw [ev11]; rfl) (by decide) rfl ?_
        refine r_goto X 24 (x_dr DX2_divide 50 rfl) (by decide) ?_
        refine r_norm X [1, 2, 0] ([(0, .ref (ad o 0 0)), (1, .int a1), (2, .int v11)]) rfl ?_
        exact ih _ _ h kk
      · replace h := h.2 c10
        refine r_aload_n X (x_dr DX2_divide 25 rfl) 0 rfl rfl ?_
        refine gf_2_57 X ho (x_dr DX2_divide 26 rfl) ?_
        refine r_iload_n X (x_dr DX2_divide 27 rfl) 1 rfl rfl ?_
        refine r_dup2 X (x_dr DX2_divide 28 rfl) rfl rfl ?_
        obtain ⟨b12, h⟩ := h
        refine r_iald X ho rfl b12 (x_dr DX2_divide 29 rfl) ?_
        refine r_aload_n X (x_dr DX2_divide 30 rfl) 0 rfl rfl ?_
        refine gf_2_24 X ho (x_dr DX2_divide 31 rfl) ?_
        refine r_iload_n X (x_dr DX2_divide 32 rfl) 2 rfl rfl ?_
        obtain ⟨b13, h⟩ := h
        refine r_iald X ho rfl b13 (x_dr DX2_divide 33 rfl) ?_
        refine r_iadd X (x_dr DX2_divide 34 rfl) ?_
        obtain ⟨b14, h⟩ := h
        refine r_iast X ho rfl b14 (x_dr DX2_divide 35 rfl) ?_
        refine r_nmS (fun s15 es15 => ?_)
        replace h := h s15 es15
        refine r_aload_n X (x_dr DX2_divide 36 rfl) 0 rfl rfl ?_
        refine gf_2_60 X ho (x_dr DX2_divide 37 rfl) ?_
        refine r_iload_n X (x_dr DX2_divide 38 rfl) 1 rfl rfl ?_
        refine r_dup2 X (x_dr DX2_divide 39 rfl) rfl rfl ?_
        obtain ⟨b16, h⟩ := h
        refine r_iald X ho rfl b16 (x_dr DX2_divide 40 rfl) ?_
        refine r_iconst (v := 1) X (x_dr DX2_divide 41 rfl) (by decide) ?_
        refine r_aload_n X (x_dr DX2_divide 42 rfl) 0 rfl rfl ?_
        refine gf_2_24 X ho (x_dr DX2_divide 43 rfl) ?_
        refine r_iload_n X (x_dr DX2_divide 44 rfl) 2 rfl rfl ?_
        obtain ⟨b17, h⟩ := h
        refine r_iald X ho rfl b17 (x_dr DX2_divide 45 rfl) ?_
        refine r_isub X (x_dr DX2_divide 46 rfl) ?_
        refine r_iadd X (x_dr DX2_divide 47 rfl) ?_
        obtain ⟨b18, h⟩ := h
        refine r_iast X ho rfl b18 (x_dr DX2_divide 48 rfl) ?_
        refine r_nmS (fun s19 es19 => ?_)
        replace h := h s19 es19
        obtain ⟨v20, ev20⟩ : ∃ z : Int32, z = a2 + 1 := ⟨_, rfl⟩
        replace h := h v20 ev20
        refine r_iinc (v := v20) X ([(2, .int v20), (0, .ref (ad o 0 0)), (1, .int a1)]) 2 (x_dr DX2_divide 49 rfl) rfl (by rw [ev20]; rfl) (by decide) rfl ?_
        refine r_goto X 24 (x_dr DX2_divide 50 rfl) (by decide) ?_
        refine r_norm X [1, 2, 0] ([(0, .ref (ad o 0 0)), (1, .int a1), (2, .int v20)]) rfl ?_
        exact ih _ _ h kk
set_option maxRecDepth 10000 in
theorem k2_divide {ad : xAd} {G : xG} {l : Launch} {o : Nat} {a1 : Int32} {σ : xSt} {Q : xSt → Prop} (ho : x_cl o = 2) (h : d2_divide o a1 σ Q) : MC ad G l yX2_divide cX2_divide 3 none 1 20 [.ref (ad o 0 0), .int a1] σ (qV Q) := by
  unfold d2_divide at h
  refine x_MC [(0, .ref (ad o 0 0)), (1, .int a1)] (by decide +kernel) rfl (Nat.le_of_ble_eq_true rfl) ?_
  intro E hG hl X
  replace X : FX ad E cX2_divide 3 RX2 none 1 20 := X
  refine r_iload_n X (x_dr DX2_divide 0 rfl) 1 rfl rfl ?_
  refine cl6_isHour_N X (k6_isHour h) (x_nm_mem 7 rfl) ⟨Nat.le_of_ble_eq_true rfl, Nat.le_of_ble_eq_true rfl⟩ (Nat.le_of_ble_eq_true rfl) (x_dr DX2_divide 1 rfl) (fun v2 s1 zv2 h => ?_)
  refine r_if_ne X 8 (x_dr DX2_divide 2 rfl) (by decide) (fun c3 => ?_) (fun c3 => ?_)
  · replace h := h.1 c3
    refine r_aload_n X (x_dr DX2_divide 4 rfl) 0 rfl rfl ?_
    refine gf_2_57 X ho (x_dr DX2_divide 5 rfl) ?_
    refine r_iload_n X (x_dr DX2_divide 6 rfl) 1 rfl rfl ?_
    refine r_iconst (v := 0) X (x_dr DX2_divide 7 rfl) (by decide) ?_
    obtain ⟨b4, h⟩ := h
    refine r_iast X ho rfl b4 (x_dr DX2_divide 8 rfl) ?_
    refine r_nmS (fun s5 es5 => ?_)
    replace h := h s5 es5
    refine r_aload_n X (x_dr DX2_divide 9 rfl) 0 rfl rfl ?_
    refine gf_2_60 X ho (x_dr DX2_divide 10 rfl) ?_
    refine r_iload_n X (x_dr DX2_divide 11 rfl) 1 rfl rfl ?_
    refine r_iconst (v := 0) X (x_dr DX2_divide 12 rfl) (by decide) ?_
    obtain ⟨b6, h⟩ := h
    refine r_iast X ho rfl b6 (x_dr DX2_divide 13 rfl) ?_
    refine r_nmS (fun s7 es7 => ?_)
    replace h := h s7 es7
    refine r_iconst (v := 0) X (x_dr DX2_divide 14 rfl) (by decide) ?_
    refine r_istore_n X ([(2, .int 0), (0, .ref (ad o 0 0)), (1, .int a1)]) (x_dr DX2_divide 15 rfl) rfl (by decide) rfl ?_
    refine r_norm X [1, 2, 0] ([(0, .ref (ad o 0 0)), (1, .int a1), (2, .int 0)]) rfl ?_
    refine w2_divide_L24 X ho _ _ _ h (fun s21 h => ?_)
    exact r_vret X rfl (x_dr DX2_divide 51 rfl) ⟨rfl, h⟩
  · replace h := h.2 c3
    exact r_vret X rfl (x_dr DX2_divide 3 rfl) ⟨rfl, h⟩
set_option maxRecDepth 10000 in
theorem w2_keepRecord_L10 {ad : xAd} {E : xE} (X : FX ad E cX2_keepRecord 3 RX2 none 1 20) {o : Nat} (ho : x_cl o = 2) {a1 : Int32} {K : xSt → Prop} {Q : xSt → Prop} : ∀ (n : Nat) (a2 : Int32) (σ : xSt), d2_keepRecord_L10 o a1 K Q n a2 σ → (∀ (s : xSt), K  s → KK ad E (qV Q) 50 ([(0, .ref (ad o 0 0)), (1, .int a1)]) [] s) → KK ad E (qV Q) 10 ([(0, .ref (ad o 0 0)), (1, .int a1), (2, .int a2)]) [] σ := by
  intro n
  induction n with
  | zero => intro a2 σ h kk; exact h.elim
  | succ n ih =>
    intro a2 σ h kk
    rw [d2_keepRecord_L10] at h
    refine r_iload_n X (x_dr DX2_keepRecord 6 rfl) 2 rfl rfl ?_
    refine r_bipush (v := 12) X (x_dr DX2_keepRecord 7 rfl) (by decide) ?_
    refine r_icmp_ge X 50 (x_dr DX2_keepRecord 8 rfl) (by decide) (fun c4 => ?_) (fun c4 => ?_)
    · replace h := h.1 c4
      refine r_norm X [0, 1] ([(0, .ref (ad o 0 0)), (1, .int a1)]) rfl ?_
      exact kk  _ h
    · replace h := h.2 c4
      refine r_aload_n X (x_dr DX2_keepRecord 9 rfl) 0 rfl rfl ?_
      refine gf_2_39 X ho (x_dr DX2_keepRecord 10 rfl) ?_
      refine r_iload_n X (x_dr DX2_keepRecord 11 rfl) 1 rfl rfl ?_
      obtain ⟨b5, h⟩ := h
      refine r_aald X ho (n := 12) rfl b5 (x_dr DX2_keepRecord 12 rfl) ?_
      refine r_iload_n X (x_dr DX2_keepRecord 13 rfl) 2 rfl rfl ?_
      refine r_aload_n X (x_dr DX2_keepRecord 14 rfl) 0 rfl rfl ?_
      refine gf_2_9 X ho (x_dr DX2_keepRecord 15 rfl) ?_
      refine r_iload_n X (x_dr DX2_keepRecord 16 rfl) 2 rfl rfl ?_
      obtain ⟨b6, h⟩ := h
      refine r_iald X ho rfl b6 (x_dr DX2_keepRecord 17 rfl) ?_
      obtain ⟨b7, h⟩ := h
      refine r_iast2 X ho rfl b5 b7 (x_dr DX2_keepRecord 18 rfl) ?_
      refine r_nmS (fun s8 es8 => ?_)
      replace h := h s8 es8
      refine r_aload_n X (x_dr DX2_keepRecord 19 rfl) 0 rfl rfl ?_
      refine gf_2_42 X ho (x_dr DX2_keepRecord 20 rfl) ?_
      refine r_iload_n X (x_dr DX2_keepRecord 21 rfl) 1 rfl rfl ?_
      obtain ⟨b9, h⟩ := h
      refine r_aald X ho (n := 12) rfl b9 (x_dr DX2_keepRecord 22 rfl) ?_
      refine r_iload_n X (x_dr DX2_keepRecord 23 rfl) 2 rfl rfl ?_
      refine r_aload_n X (x_dr DX2_keepRecord 24 rfl) 0 rfl rfl ?_
      refine gf_2_15 X ho (x_dr DX2_keepRecord 25 rfl) ?_
      refine r_iload_n X (x_dr DX2_keepRecord 26 rfl) 2 rfl rfl ?_
      obtain ⟨b10, h⟩ := h
      refine r_iald X ho rfl b10 (x_dr DX2_keepRecord 27 rfl) ?_
      obtain ⟨b11, h⟩ := h
      refine r_iast2 X ho rfl b9 b11 (x_dr DX2_keepRecord 28 rfl) ?_
      refine r_nmS (fun s12 es12 => ?_)
      replace h := h s12 es12
      obtain ⟨v13, ev13⟩ : ∃ z : Int32, z = a2 + 1 := ⟨_, rfl⟩
      replace h := h v13 ev13
      refine r_iinc (v := v13) X ([(2, .int v13), (0, .ref (ad o 0 0)), (1, .int a1)]) 2 (x_dr DX2_keepRecord 29 rfl) rfl (by rw [ev13]; rfl) (by decide) rfl ?_
      refine r_goto X 10 (x_dr DX2_keepRecord 30 rfl) (by decide) ?_
      refine r_norm X [1, 2, 0] ([(0, .ref (ad o 0 0)), (1, .int a1), (2, .int v13)]) rfl ?_
      exact ih _ _ h kk
set_option maxRecDepth 10000 in
theorem w2_keepRecord_L52 {ad : xAd} {E : xE} (X : FX ad E cX2_keepRecord 3 RX2 none 1 20) {o : Nat} (ho : x_cl o = 2) {a1 : Int32} {K : xSt → Prop} {Q : xSt → Prop} : ∀ (n : Nat) (a2 : Int32) (σ : xSt), d2_keepRecord_L52 o a1 K Q n a2 σ → (∀ (s : xSt), K  s → KK ad E (qV Q) 130 ([]) [] s) → KK ad E (qV Q) 52 ([(0, .ref (ad o 0 0)), (1, .int a1), (2, .int a2)]) [] σ := by
  intro n
  induction n with
  | zero => intro a2 σ h kk; exact h.elim
  | succ n ih =>
    intro a2 σ h kk
    rw [d2_keepRecord_L52] at h
    refine r_iload_n X (x_dr DX2_keepRecord 33 rfl) 2 rfl rfl ?_
    refine r_aload_n X (x_dr DX2_keepRecord 34 rfl) 0 rfl rfl ?_
    refine gf_2_103 X ho (x_dr DX2_keepRecord 35 rfl) ?_
    refine r_icmp_ge X 130 (x_dr DX2_keepRecord 36 rfl) (by decide) (fun c15 => ?_) (fun c15 => ?_)
    · replace h := h.1 c15
      refine r_norm X [] ([]) rfl ?_
      exact kk  _ h
    · replace h := h.2 c15
      refine r_aload_n X (x_dr DX2_keepRecord 37 rfl) 0 rfl rfl ?_
      refine gf_2_45 X ho (x_dr DX2_keepRecord 38 rfl) ?_
      refine r_iload_n X (x_dr DX2_keepRecord 39 rfl) 1 rfl rfl ?_
      obtain ⟨b16, h⟩ := h
      refine r_aald X ho (n := 8) rfl b16 (x_dr DX2_keepRecord 40 rfl) ?_
      refine r_iload_n X (x_dr DX2_keepRecord 41 rfl) 2 rfl rfl ?_
      refine r_aload_n X (x_dr DX2_keepRecord 42 rfl) 0 rfl rfl ?_
      refine gf_2_21 X ho (x_dr DX2_keepRecord 43 rfl) ?_
      refine r_iload_n X (x_dr DX2_keepRecord 44 rfl) 2 rfl rfl ?_
      obtain ⟨b17, h⟩ := h
      refine r_iald X ho rfl b17 (x_dr DX2_keepRecord 45 rfl) ?_
      obtain ⟨b18, h⟩ := h
      refine r_iast2 X ho rfl b16 b18 (x_dr DX2_keepRecord 46 rfl) ?_
      refine r_nmS (fun s19 es19 => ?_)
      replace h := h s19 es19
      refine r_aload_n X (x_dr DX2_keepRecord 47 rfl) 0 rfl rfl ?_
      refine gf_2_48 X ho (x_dr DX2_keepRecord 48 rfl) ?_
      refine r_iload_n X (x_dr DX2_keepRecord 49 rfl) 1 rfl rfl ?_
      obtain ⟨b20, h⟩ := h
      refine r_aald X ho (n := 8) rfl b20 (x_dr DX2_keepRecord 50 rfl) ?_
      refine r_iload_n X (x_dr DX2_keepRecord 51 rfl) 2 rfl rfl ?_
      refine r_aload_n X (x_dr DX2_keepRecord 52 rfl) 0 rfl rfl ?_
      refine gf_2_24 X ho (x_dr DX2_keepRecord 53 rfl) ?_
      refine r_iload_n X (x_dr DX2_keepRecord 54 rfl) 2 rfl rfl ?_
      obtain ⟨b21, h⟩ := h
      refine r_iald X ho rfl b21 (x_dr DX2_keepRecord 55 rfl) ?_
      obtain ⟨b22, h⟩ := h
      refine r_iast2 X ho rfl b20 b22 (x_dr DX2_keepRecord 56 rfl) ?_
      refine r_nmS (fun s23 es23 => ?_)
      replace h := h s23 es23
      refine r_aload_n X (x_dr DX2_keepRecord 57 rfl) 0 rfl rfl ?_
      refine gf_2_51 X ho (x_dr DX2_keepRecord 58 rfl) ?_
      refine r_iload_n X (x_dr DX2_keepRecord 59 rfl) 1 rfl rfl ?_
      obtain ⟨b24, h⟩ := h
      refine r_aald X ho (n := 8) rfl b24 (x_dr DX2_keepRecord 60 rfl) ?_
      refine r_iload_n X (x_dr DX2_keepRecord 61 rfl) 2 rfl rfl ?_
      refine r_aload_n X (x_dr DX2_keepRecord 62 rfl) 0 rfl rfl ?_
      refine gf_2_30 X ho (x_dr DX2_keepRecord 63 rfl) ?_
      refine r_iload_n X (x_dr DX2_keepRecord 64 rfl) 2 rfl rfl ?_
      obtain ⟨b25, h⟩ := h
      refine r_zald X ho rfl b25 (x_dr DX2_keepRecord 65 rfl) ?_
      obtain ⟨j28, ej28, h⟩ := x_jn h
      have Jj28 : ∀ (v27 : Int32), j28 v27 → KK ad E (qV Q) 109 ([(0, .ref (ad o 0 0)), (1, .int a1), (2, .int a2)]) [.int v27, .int a2, .ref (ad o 15 (a1.toNatClampNeg + 1))] s23 := by
        intro v27 h
        rw [ej28] at h
        obtain ⟨b29, h⟩ := h
        refine r_iast2 X ho rfl b24 b29 (x_dr DX2_keepRecord 70 rfl) ?_
        refine r_nmS (fun s30 es30 => ?_)
        replace h := h s30 es30
        refine r_aload_n X (x_dr DX2_keepRecord 71 rfl) 0 rfl rfl ?_
        refine gf_2_54 X ho (x_dr DX2_keepRecord 72 rfl) ?_
        refine r_iload_n X (x_dr DX2_keepRecord 73 rfl) 1 rfl rfl ?_
        obtain ⟨b31, h⟩ := h
        refine r_aald X ho (n := 8) rfl b31 (x_dr DX2_keepRecord 74 rfl) ?_
        refine r_iload_n X (x_dr DX2_keepRecord 75 rfl) 2 rfl rfl ?_
        refine r_aload_n X (x_dr DX2_keepRecord 76 rfl) 0 rfl rfl ?_
        refine gf_2_34 X ho (x_dr DX2_keepRecord 77 rfl) ?_
        refine r_iload_n X (x_dr DX2_keepRecord 78 rfl) 2 rfl rfl ?_
        obtain ⟨b32, h⟩ := h
        refine r_iald X ho rfl b32 (x_dr DX2_keepRecord 79 rfl) ?_
        obtain ⟨b33, h⟩ := h
        refine r_iast2 X ho rfl b31 b33 (x_dr DX2_keepRecord 80 rfl) ?_
        refine r_nmS (fun s34 es34 => ?_)
        replace h := h s34 es34
        obtain ⟨v35, ev35⟩ : ∃ z : Int32, z = a2 + 1 := ⟨_, rfl⟩
        replace h := h v35 ev35
        refine r_iinc (v := v35) X ([(2, .int v35), (0, .ref (ad o 0 0)), (1, .int a1)]) 2 (x_dr DX2_keepRecord 81 rfl) rfl (by rw [ev35]; rfl) (by decide) rfl ?_
        refine r_goto X 52 (x_dr DX2_keepRecord 82 rfl) (by decide) ?_
        refine r_norm X [1, 2, 0] ([(0, .ref (ad o 0 0)), (1, .int a1), (2, .int v35)]) rfl ?_
        exact ih _ _ h kk
      refine r_if_eq X 108 (x_dr DX2_keepRecord 66 rfl) (by decide) (fun c36 => ?_) (fun c36 => ?_)
      · replace h := h.1 c36
        refine r_iconst (v := 0) X (x_dr DX2_keepRecord 69 rfl) (by decide) ?_
        refine r_norm X [0, 1, 2] ([(0, .ref (ad o 0 0)), (1, .int a1), (2, .int a2)]) rfl ?_
        exact Jj28 _ h
      · replace h := h.2 c36
        refine r_iconst (v := 1) X (x_dr DX2_keepRecord 67 rfl) (by decide) ?_
        refine r_goto X 109 (x_dr DX2_keepRecord 68 rfl) (by decide) ?_
        refine r_norm X [0, 1, 2] ([(0, .ref (ad o 0 0)), (1, .int a1), (2, .int a2)]) rfl ?_
        exact Jj28 _ h
set_option maxRecDepth 10000 in
theorem k2_keepRecord {ad : xAd} {G : xG} {l : Launch} {o : Nat} {a1 : Int32} {σ : xSt} {Q : xSt → Prop} (ho : x_cl o = 2) (h : d2_keepRecord o a1 σ Q) : MC ad G l yX2_keepRecord cX2_keepRecord 3 none 1 20 [.ref (ad o 0 0), .int a1] σ (qV Q) := by
  unfold d2_keepRecord at h
  refine x_MC [(0, .ref (ad o 0 0)), (1, .int a1)] (by decide +kernel) rfl (Nat.le_of_ble_eq_true rfl) ?_
  intro E hG hl X
  replace X : FX ad E cX2_keepRecord 3 RX2 none 1 20 := X
  refine r_iload_n X (x_dr DX2_keepRecord 0 rfl) 1 rfl rfl ?_
  refine cl6_isHour_N X (k6_isHour h) (x_nm_mem 7 rfl) ⟨Nat.le_of_ble_eq_true rfl, Nat.le_of_ble_eq_true rfl⟩ (Nat.le_of_ble_eq_true rfl) (x_dr DX2_keepRecord 1 rfl) (fun v2 s1 zv2 h => ?_)
  refine r_if_ne X 8 (x_dr DX2_keepRecord 2 rfl) (by decide) (fun c3 => ?_) (fun c3 => ?_)
  · replace h := h.1 c3
    refine r_iconst (v := 0) X (x_dr DX2_keepRecord 4 rfl) (by decide) ?_
    refine r_istore_n X ([(2, .int 0), (0, .ref (ad o 0 0)), (1, .int a1)]) (x_dr DX2_keepRecord 5 rfl) rfl (by decide) rfl ?_
    refine r_norm X [1, 2, 0] ([(0, .ref (ad o 0 0)), (1, .int a1), (2, .int 0)]) rfl ?_
    refine w2_keepRecord_L10 X ho _ _ _ h (fun s14 h => ?_)
    refine r_iconst (v := 0) X (x_dr DX2_keepRecord 31 rfl) (by decide) ?_
    refine r_istore_n X ([(2, .int 0), (0, .ref (ad o 0 0)), (1, .int a1)]) (x_dr DX2_keepRecord 32 rfl) rfl (by decide) rfl ?_
    refine r_norm X [1, 2, 0] ([(0, .ref (ad o 0 0)), (1, .int a1), (2, .int 0)]) rfl ?_
    refine w2_keepRecord_L52 X ho _ _ _ h (fun s37 h => ?_)
    exact r_vret X rfl (x_dr DX2_keepRecord 83 rfl) ⟨rfl, h⟩
  · replace h := h.2 c3
    exact r_vret X rfl (x_dr DX2_keepRecord 3 rfl) ⟨rfl, h⟩
set_option maxRecDepth 10000 in
theorem w2_sit_L12 {ad : xAd} {E : xE} (X : FX ad E cX2_sit 4 RX2 none 2 47) {o o1 : Nat} (ho : x_cl o = 2) (ho1 : x_cl o1 = 1) {a2 : Int32} {K : xSt → Prop} {Q : xSt → Prop} : ∀ (n : Nat) (a3 : Int32) (σ : xSt), d2_sit_L12 o o1 a2 K Q n a3 σ → (∀ (s : xSt), K  s → KK ad E (qV Q) 58 ([]) [] s) → KK ad E (qV Q) 12 ([(0, .ref (ad o 0 0)), (1, .ref (ad o1 0 0)), (2, .int a2), (3, .int a3)]) [] σ := by
  intro n
  induction n with
  | zero => intro a3 σ h kk; exact h.elim
  | succ n ih =>
    intro a3 σ h kk
    rw [d2_sit_L12] at h
    refine r_iload_n X (x_dr DX2_sit 8 rfl) 3 rfl rfl ?_
    refine r_iload_n X (x_dr DX2_sit 9 rfl) 2 rfl rfl ?_
    refine r_icmp_ge X 58 (x_dr DX2_sit 10 rfl) (by decide) (fun c2 => ?_) (fun c2 => ?_)
    · replace h := h.1 c2
      refine r_norm X [] ([]) rfl ?_
      exact kk  _ h
    · replace h := h.2 c2
      refine r_iload_n X (x_dr DX2_sit 11 rfl) 3 rfl rfl ?_
      refine r_bipush (v := 20) X (x_dr DX2_sit 12 rfl) (by decide) ?_
      refine r_icmp_ge X 58 (x_dr DX2_sit 13 rfl) (by decide) (fun c3 => ?_) (fun c3 => ?_)
      · replace h := h.1 c3
        refine r_norm X [] ([]) rfl ?_
        exact kk  _ h
      · replace h := h.2 c3
        refine r_aload_n X (x_dr DX2_sit 14 rfl) 0 rfl rfl ?_
        refine r_aload_n X (x_dr DX2_sit 15 rfl) 1 rfl rfl ?_
        refine r_iload_n X (x_dr DX2_sit 16 rfl) 3 rfl rfl ?_
        refine cl2_doEvents X (k2_doEvents ho ho1 h) ho ml_2_67 ⟨Nat.le_of_ble_eq_true rfl, Nat.le_of_ble_eq_true rfl⟩ (Nat.le_of_ble_eq_true rfl) (x_dr DX2_sit 17 rfl) (fun s4 h => ?_)
        refine r_aload_n X (x_dr DX2_sit 18 rfl) 0 rfl rfl ?_
        refine r_iload_n X (x_dr DX2_sit 19 rfl) 3 rfl rfl ?_
        refine cl2_letMembersGo X (k2_letMembersGo ho h) ho ml_2_71 ⟨Nat.le_of_ble_eq_true rfl, Nat.le_of_ble_eq_true rfl⟩ (Nat.le_of_ble_eq_true rfl) (x_dr DX2_sit 20 rfl) (fun s5 h => ?_)
        refine r_aload_n X (x_dr DX2_sit 21 rfl) 0 rfl rfl ?_
        refine cl2_countHeads X (k2_countHeads ho h) ho ml_2_75 ⟨Nat.le_of_ble_eq_true rfl, Nat.le_of_ble_eq_true rfl⟩ (Nat.le_of_ble_eq_true rfl) (x_dr DX2_sit 22 rfl) (fun s6 h => ?_)
        refine r_aload_n X (x_dr DX2_sit 23 rfl) 0 rfl rfl ?_
        refine cl2_dryCrowdedPlaces X (k2_dryCrowdedPlaces ho h) ho ml_2_78 ⟨Nat.le_of_ble_eq_true rfl, Nat.le_of_ble_eq_true rfl⟩ (Nat.le_of_ble_eq_true rfl) (x_dr DX2_sit 24 rfl) (fun s7 h => ?_)
        refine r_aload_n X (x_dr DX2_sit 25 rfl) 0 rfl rfl ?_
        refine r_iload_n X (x_dr DX2_sit 26 rfl) 3 rfl rfl ?_
        refine cl2_divide X (k2_divide ho h) ho ml_2_81 ⟨Nat.le_of_ble_eq_true rfl, Nat.le_of_ble_eq_true rfl⟩ (Nat.le_of_ble_eq_true rfl) (x_dr DX2_sit 27 rfl) (fun s8 h => ?_)
        refine r_aload_n X (x_dr DX2_sit 28 rfl) 0 rfl rfl ?_
        refine r_iload_n X (x_dr DX2_sit 29 rfl) 3 rfl rfl ?_
        refine cl2_keepRecord X (k2_keepRecord ho h) ho ml_2_84 ⟨Nat.le_of_ble_eq_true rfl, Nat.le_of_ble_eq_true rfl⟩ (Nat.le_of_ble_eq_true rfl) (x_dr DX2_sit 30 rfl) (fun s9 h => ?_)
        obtain ⟨v10, ev10⟩ : ∃ z : Int32, z = a3 + 1 := ⟨_, rfl⟩
        replace h := h v10 ev10
        refine r_iinc (v := v10) X ([(3, .int v10), (0, .ref (ad o 0 0)), (1, .ref (ad o1 0 0)), (2, .int a2)]) 3 (x_dr DX2_sit 31 rfl) rfl (by rw [ev10]; rfl) (by decide) rfl ?_
        refine r_goto X 12 (x_dr DX2_sit 32 rfl) (by decide) ?_
        refine r_norm X [1, 2, 3, 0] ([(0, .ref (ad o 0 0)), (1, .ref (ad o1 0 0)), (2, .int a2), (3, .int v10)]) rfl ?_
        exact ih _ _ h kk
set_option maxRecDepth 10000 in
theorem k2_sit {ad : xAd} {G : xG} {l : Launch} {o o1 : Nat} {a2 : Int32} {σ : xSt} {Q : xSt → Prop} (ho : x_cl o = 2) (ho1 : x_cl o1 = 1) (h : d2_sit o o1 a2 σ Q) : MC ad G l yX2_sit cX2_sit 4 none 2 47 [.ref (ad o 0 0), .ref (ad o1 0 0), .int a2] σ (qV Q) := by
  unfold d2_sit at h
  refine x_MC [(0, .ref (ad o 0 0)), (1, .ref (ad o1 0 0)), (2, .int a2)] (by decide +kernel) rfl (Nat.le_of_ble_eq_true rfl) ?_
  intro E hG hl X
  replace X : FX ad E cX2_sit 4 RX2 none 2 47 := X
  refine r_aload_n X (x_dr DX2_sit 0 rfl) 1 rfl rfl ?_
  refine r_ifnonnull X 5 (x_dr DX2_sit 1 rfl) (by decide) ?_
  refine r_aload_n X (x_dr DX2_sit 3 rfl) 0 rfl rfl ?_
  refine r_aload_n X (x_dr DX2_sit 4 rfl) 1 rfl rfl ?_
  refine cl2_begin X (k2_begin ho ho1 h) ho ml_2_63 ⟨Nat.le_of_ble_eq_true rfl, Nat.le_of_ble_eq_true rfl⟩ (Nat.le_of_ble_eq_true rfl) (x_dr DX2_sit 5 rfl) (fun s1 h => ?_)
  refine r_iconst (v := 0) X (x_dr DX2_sit 6 rfl) (by decide) ?_
  refine r_istore_n X ([(3, .int 0), (0, .ref (ad o 0 0)), (1, .ref (ad o1 0 0)), (2, .int a2)]) (x_dr DX2_sit 7 rfl) rfl (by decide) rfl ?_
  refine r_norm X [1, 2, 3, 0] ([(0, .ref (ad o 0 0)), (1, .ref (ad o1 0 0)), (2, .int a2), (3, .int 0)]) rfl ?_
  refine w2_sit_L12 X ho ho1 _ _ _ h (fun s11 h => ?_)
  exact r_vret X rfl (x_dr DX2_sit 33 rfl) ⟨rfl, h⟩
set_option maxRecDepth 10000 in
theorem k2_dampOf {ad : xAd} {G : xG} {l : Launch} {o : Nat} {a1 : Int32} {a2 : Int32} {σ : xSt} {Q : Int32 → xSt → Prop} (ho : x_cl o = 2) (h : d2_dampOf o a1 a2 σ Q) : MC ad G l yX2_dampOf cX2_dampOf 3 (some .int) 1 20 [.ref (ad o 0 0), .int a1, .int a2] σ (qI Q) := by
  unfold d2_dampOf at h
  refine x_MC [(0, .ref (ad o 0 0)), (1, .int a1), (2, .int a2)] (by decide +kernel) rfl (Nat.le_of_ble_eq_true rfl) ?_
  intro E hG hl X
  replace X : FX ad E cX2_dampOf 3 RX2 (some .int) 1 20 := X
  refine r_iload_n X (x_dr DX2_dampOf 0 rfl) 1 rfl rfl ?_
  refine cl6_isHour_N X (k6_isHour h) (x_nm_mem 7 rfl) ⟨Nat.le_of_ble_eq_true rfl, Nat.le_of_ble_eq_true rfl⟩ (Nat.le_of_ble_eq_true rfl) (x_dr DX2_dampOf 1 rfl) (fun v2 s1 zv2 h => ?_)
  refine r_if_eq X 25 (x_dr DX2_dampOf 2 rfl) (by decide) (fun c3 => ?_) (fun c3 => ?_)
  · replace h := h.1 c3
    refine r_iconst (v := 0) X (x_dr DX2_dampOf 13 rfl) (by decide) ?_
    exact r_iret X rfl (x_dr DX2_dampOf 14 rfl) ⟨_, rfl, h⟩
  · replace h := h.2 c3
    refine r_iload_n X (x_dr DX2_dampOf 3 rfl) 2 rfl rfl ?_
    refine cl6_isPlace_N X (k6_isPlace h) (x_nm_mem 6 rfl) ⟨Nat.le_of_ble_eq_true rfl, Nat.le_of_ble_eq_true rfl⟩ (Nat.le_of_ble_eq_true rfl) (x_dr DX2_dampOf 4 rfl) (fun v5 s4 zv5 h => ?_)
    refine r_if_eq X 25 (x_dr DX2_dampOf 5 rfl) (by decide) (fun c6 => ?_) (fun c6 => ?_)
    · replace h := h.1 c6
      refine r_iconst (v := 0) X (x_dr DX2_dampOf 13 rfl) (by decide) ?_
      exact r_iret X rfl (x_dr DX2_dampOf 14 rfl) ⟨_, rfl, h⟩
    · replace h := h.2 c6
      refine r_aload_n X (x_dr DX2_dampOf 6 rfl) 0 rfl rfl ?_
      refine gf_2_39 X ho (x_dr DX2_dampOf 7 rfl) ?_
      refine r_iload_n X (x_dr DX2_dampOf 8 rfl) 1 rfl rfl ?_
      obtain ⟨b7, h⟩ := h
      refine r_aald X ho (n := 12) rfl b7 (x_dr DX2_dampOf 9 rfl) ?_
      refine r_iload_n X (x_dr DX2_dampOf 10 rfl) 2 rfl rfl ?_
      obtain ⟨b8, h⟩ := h
      refine r_iald2 X ho rfl b7 b8 (x_dr DX2_dampOf 11 rfl) ?_
      refine r_goto X 26 (x_dr DX2_dampOf 12 rfl) (by decide) ?_
      exact r_iret X rfl (x_dr DX2_dampOf 14 rfl) ⟨_, rfl, h⟩
set_option maxRecDepth 10000 in
theorem k2_headsAt {ad : xAd} {G : xG} {l : Launch} {o : Nat} {a1 : Int32} {a2 : Int32} {σ : xSt} {Q : Int32 → xSt → Prop} (ho : x_cl o = 2) (h : d2_headsAt o a1 a2 σ Q) : MC ad G l yX2_headsAt cX2_headsAt 3 (some .int) 1 20 [.ref (ad o 0 0), .int a1, .int a2] σ (qI Q) := by
  unfold d2_headsAt at h
  refine x_MC [(0, .ref (ad o 0 0)), (1, .int a1), (2, .int a2)] (by decide +kernel) rfl (Nat.le_of_ble_eq_true rfl) ?_
  intro E hG hl X
  replace X : FX ad E cX2_headsAt 3 RX2 (some .int) 1 20 := X
  refine r_iload_n X (x_dr DX2_headsAt 0 rfl) 1 rfl rfl ?_
  refine cl6_isHour_N X (k6_isHour h) (x_nm_mem 7 rfl) ⟨Nat.le_of_ble_eq_true rfl, Nat.le_of_ble_eq_true rfl⟩ (Nat.le_of_ble_eq_true rfl) (x_dr DX2_headsAt 1 rfl) (fun v2 s1 zv2 h => ?_)
  refine r_if_eq X 25 (x_dr DX2_headsAt 2 rfl) (by decide) (fun c3 => ?_) (fun c3 => ?_)
  · replace h := h.1 c3
    refine r_iconst (v := 0) X (x_dr DX2_headsAt 13 rfl) (by decide) ?_
    exact r_iret X rfl (x_dr DX2_headsAt 14 rfl) ⟨_, rfl, h⟩
  · replace h := h.2 c3
    refine r_iload_n X (x_dr DX2_headsAt 3 rfl) 2 rfl rfl ?_
    refine cl6_isPlace_N X (k6_isPlace h) (x_nm_mem 6 rfl) ⟨Nat.le_of_ble_eq_true rfl, Nat.le_of_ble_eq_true rfl⟩ (Nat.le_of_ble_eq_true rfl) (x_dr DX2_headsAt 4 rfl) (fun v5 s4 zv5 h => ?_)
    refine r_if_eq X 25 (x_dr DX2_headsAt 5 rfl) (by decide) (fun c6 => ?_) (fun c6 => ?_)
    · replace h := h.1 c6
      refine r_iconst (v := 0) X (x_dr DX2_headsAt 13 rfl) (by decide) ?_
      exact r_iret X rfl (x_dr DX2_headsAt 14 rfl) ⟨_, rfl, h⟩
    · replace h := h.2 c6
      refine r_aload_n X (x_dr DX2_headsAt 6 rfl) 0 rfl rfl ?_
      refine gf_2_42 X ho (x_dr DX2_headsAt 7 rfl) ?_
      refine r_iload_n X (x_dr DX2_headsAt 8 rfl) 1 rfl rfl ?_
      obtain ⟨b7, h⟩ := h
      refine r_aald X ho (n := 12) rfl b7 (x_dr DX2_headsAt 9 rfl) ?_
      refine r_iload_n X (x_dr DX2_headsAt 10 rfl) 2 rfl rfl ?_
      obtain ⟨b8, h⟩ := h
      refine r_iald2 X ho rfl b7 b8 (x_dr DX2_headsAt 11 rfl) ?_
      refine r_goto X 26 (x_dr DX2_headsAt 12 rfl) (by decide) ?_
      exact r_iret X rfl (x_dr DX2_headsAt 14 rfl) ⟨_, rfl, h⟩
set_option maxRecDepth 10000 in
theorem k2_ofMember {ad : xAd} {G : xG} {l : Launch} {o : Nat} {a1 : Int32} {a2 : Int32} {a3 : Int32} {σ : xSt} {Q : Int32 → xSt → Prop} (ho : x_cl o = 2) (h : d2_ofMember o a1 a2 a3 σ Q) : MC ad G l yX2_ofMember cX2_ofMember 4 (some .int) 1 20 [.ref (ad o 0 0), .int a1, .int a2, .int a3] σ (qI Q) := by
  unfold d2_ofMember at h
  refine x_MC [(0, .ref (ad o 0 0)), (1, .int a1), (2, .int a2), (3, .int a3)] (by decide +kernel) rfl (Nat.le_of_ble_eq_true rfl) ?_
  intro E hG hl X
  replace X : FX ad E cX2_ofMember 4 RX2 (some .int) 1 20 := X
  refine r_iload_n X (x_dr DX2_ofMember 0 rfl) 1 rfl rfl ?_
  refine cl6_isHour_N X (k6_isHour h) (x_nm_mem 7 rfl) ⟨Nat.le_of_ble_eq_true rfl, Nat.le_of_ble_eq_true rfl⟩ (Nat.le_of_ble_eq_true rfl) (x_dr DX2_ofMember 1 rfl) (fun v2 s1 zv2 h => ?_)
  refine r_if_eq X 25 (x_dr DX2_ofMember 2 rfl) (by decide) (fun c3 => ?_) (fun c3 => ?_)
  · replace h := h.1 c3
    refine r_iconst (v := (-1)) X (x_dr DX2_ofMember 12 rfl) (by decide) ?_
    exact r_iret X rfl (x_dr DX2_ofMember 13 rfl) ⟨_, rfl, h⟩
  · replace h := h.2 c3
    refine r_iload_n X (x_dr DX2_ofMember 3 rfl) 2 rfl rfl ?_
    refine r_if_lt X 25 (x_dr DX2_ofMember 4 rfl) (by decide) (fun c4 => ?_) (fun c4 => ?_)
    · replace h := h.1 c4
      refine r_iconst (v := (-1)) X (x_dr DX2_ofMember 12 rfl) (by decide) ?_
      exact r_iret X rfl (x_dr DX2_ofMember 13 rfl) ⟨_, rfl, h⟩
    · replace h := h.2 c4
      refine r_iload_n X (x_dr DX2_ofMember 5 rfl) 2 rfl rfl ?_
      refine r_bipush (v := 8) X (x_dr DX2_ofMember 6 rfl) (by decide) ?_
      refine r_icmp_ge X 25 (x_dr DX2_ofMember 7 rfl) (by decide) (fun c5 => ?_) (fun c5 => ?_)
      · replace h := h.1 c5
        refine r_iconst (v := (-1)) X (x_dr DX2_ofMember 12 rfl) (by decide) ?_
        exact r_iret X rfl (x_dr DX2_ofMember 13 rfl) ⟨_, rfl, h⟩
      · replace h := h.2 c5
        refine r_iload_n X (x_dr DX2_ofMember 8 rfl) 2 rfl rfl ?_
        refine r_aload_n X (x_dr DX2_ofMember 9 rfl) 0 rfl rfl ?_
        refine gf_2_103 X ho (x_dr DX2_ofMember 10 rfl) ?_
        refine r_icmp_lt X 27 (x_dr DX2_ofMember 11 rfl) (by decide) (fun c6 => ?_) (fun c6 => ?_)
        · replace h := h.1 c6
          refine r_iload_n X (x_dr DX2_ofMember 14 rfl) 3 rfl rfl ?_
          refine r_if_ne X 40 (x_dr DX2_ofMember 15 rfl) (by decide) (fun c7 => ?_) (fun c7 => ?_)
          · replace h := h.1 c7
            refine r_iload_n X (x_dr DX2_ofMember 23 rfl) 3 rfl rfl ?_
            refine r_iconst (v := 1) X (x_dr DX2_ofMember 24 rfl) (by decide) ?_
            refine r_icmp_ne X 54 (x_dr DX2_ofMember 25 rfl) (by decide) (fun c8 => ?_) (fun c8 => ?_)
            · replace h := h.1 c8
              refine r_iload_n X (x_dr DX2_ofMember 33 rfl) 3 rfl rfl ?_
              refine r_iconst (v := 2) X (x_dr DX2_ofMember 34 rfl) (by decide) ?_
              refine r_icmp_ne X 70 (x_dr DX2_ofMember 35 rfl) (by decide) (fun c9 => ?_) (fun c9 => ?_)
              · replace h := h.1 c9
                refine r_aload_n X (x_dr DX2_ofMember 43 rfl) 0 rfl rfl ?_
                refine gf_2_54 X ho (x_dr DX2_ofMember 44 rfl) ?_
                refine r_iload_n X (x_dr DX2_ofMember 45 rfl) 1 rfl rfl ?_
                obtain ⟨b10, h⟩ := h
                refine r_aald X ho (n := 8) rfl b10 (x_dr DX2_ofMember 46 rfl) ?_
                refine r_iload_n X (x_dr DX2_ofMember 47 rfl) 2 rfl rfl ?_
                obtain ⟨b11, h⟩ := h
                refine r_iald2 X ho rfl b10 b11 (x_dr DX2_ofMember 48 rfl) ?_
                exact r_iret X rfl (x_dr DX2_ofMember 49 rfl) ⟨_, rfl, h⟩
              · replace h := h.2 c9
                refine r_aload_n X (x_dr DX2_ofMember 36 rfl) 0 rfl rfl ?_
                refine gf_2_51 X ho (x_dr DX2_ofMember 37 rfl) ?_
                refine r_iload_n X (x_dr DX2_ofMember 38 rfl) 1 rfl rfl ?_
                obtain ⟨b12, h⟩ := h
                refine r_aald X ho (n := 8) rfl b12 (x_dr DX2_ofMember 39 rfl) ?_
                refine r_iload_n X (x_dr DX2_ofMember 40 rfl) 2 rfl rfl ?_
                obtain ⟨b13, h⟩ := h
                refine r_iald2 X ho rfl b12 b13 (x_dr DX2_ofMember 41 rfl) ?_
                refine r_goto X 78 (x_dr DX2_ofMember 42 rfl) (by decide) ?_
                exact r_iret X rfl (x_dr DX2_ofMember 49 rfl) ⟨_, rfl, h⟩
            · replace h := h.2 c8
              refine r_aload_n X (x_dr DX2_ofMember 26 rfl) 0 rfl rfl ?_
              refine gf_2_48 X ho (x_dr DX2_ofMember 27 rfl) ?_
              refine r_iload_n X (x_dr DX2_ofMember 28 rfl) 1 rfl rfl ?_
              obtain ⟨b14, h⟩ := h
              refine r_aald X ho (n := 8) rfl b14 (x_dr DX2_ofMember 29 rfl) ?_
              refine r_iload_n X (x_dr DX2_ofMember 30 rfl) 2 rfl rfl ?_
              obtain ⟨b15, h⟩ := h
              refine r_iald2 X ho rfl b14 b15 (x_dr DX2_ofMember 31 rfl) ?_
              exact r_iret X rfl (x_dr DX2_ofMember 32 rfl) ⟨_, rfl, h⟩
          · replace h := h.2 c7
            refine r_aload_n X (x_dr DX2_ofMember 16 rfl) 0 rfl rfl ?_
            refine gf_2_45 X ho (x_dr DX2_ofMember 17 rfl) ?_
            refine r_iload_n X (x_dr DX2_ofMember 18 rfl) 1 rfl rfl ?_
            obtain ⟨b16, h⟩ := h
            refine r_aald X ho (n := 8) rfl b16 (x_dr DX2_ofMember 19 rfl) ?_
            refine r_iload_n X (x_dr DX2_ofMember 20 rfl) 2 rfl rfl ?_
            obtain ⟨b17, h⟩ := h
            refine r_iald2 X ho rfl b16 b17 (x_dr DX2_ofMember 21 rfl) ?_
            exact r_iret X rfl (x_dr DX2_ofMember 22 rfl) ⟨_, rfl, h⟩
        · replace h := h.2 c6
          refine r_iconst (v := (-1)) X (x_dr DX2_ofMember 12 rfl) (by decide) ?_
          exact r_iret X rfl (x_dr DX2_ofMember 13 rfl) ⟨_, rfl, h⟩
set_option maxRecDepth 10000 in
theorem k2_ayesOf {ad : xAd} {G : xG} {l : Launch} {o : Nat} {a1 : Int32} {σ : xSt} {Q : Int32 → xSt → Prop} (ho : x_cl o = 2) (h : d2_ayesOf o a1 σ Q) : MC ad G l yX2_ayesOf cX2_ayesOf 2 (some .int) 1 20 [.ref (ad o 0 0), .int a1] σ (qI Q) := by
  unfold d2_ayesOf at h
  refine x_MC [(0, .ref (ad o 0 0)), (1, .int a1)] (by decide +kernel) rfl (Nat.le_of_ble_eq_true rfl) ?_
  intro E hG hl X
  replace X : FX ad E cX2_ayesOf 2 RX2 (some .int) 1 20 := X
  refine r_iload_n X (x_dr DX2_ayesOf 0 rfl) 1 rfl rfl ?_
  refine cl6_isHour_N X (k6_isHour h) (x_nm_mem 7 rfl) ⟨Nat.le_of_ble_eq_true rfl, Nat.le_of_ble_eq_true rfl⟩ (Nat.le_of_ble_eq_true rfl) (x_dr DX2_ayesOf 1 rfl) (fun v2 s1 zv2 h => ?_)
  refine r_if_eq X 16 (x_dr DX2_ayesOf 2 rfl) (by decide) (fun c3 => ?_) (fun c3 => ?_)
  · replace h := h.1 c3
    refine r_iconst (v := 0) X (x_dr DX2_ayesOf 8 rfl) (by decide) ?_
    exact r_iret X rfl (x_dr DX2_ayesOf 9 rfl) ⟨_, rfl, h⟩
  · replace h := h.2 c3
    refine r_aload_n X (x_dr DX2_ayesOf 3 rfl) 0 rfl rfl ?_
    refine gf_2_57 X ho (x_dr DX2_ayesOf 4 rfl) ?_
    refine r_iload_n X (x_dr DX2_ayesOf 5 rfl) 1 rfl rfl ?_
    obtain ⟨b4, h⟩ := h
    refine r_iald X ho rfl b4 (x_dr DX2_ayesOf 6 rfl) ?_
    refine r_goto X 17 (x_dr DX2_ayesOf 7 rfl) (by decide) ?_
    exact r_iret X rfl (x_dr DX2_ayesOf 9 rfl) ⟨_, rfl, h⟩
set_option maxRecDepth 10000 in
theorem k2_noesOf {ad : xAd} {G : xG} {l : Launch} {o : Nat} {a1 : Int32} {σ : xSt} {Q : Int32 → xSt → Prop} (ho : x_cl o = 2) (h : d2_noesOf o a1 σ Q) : MC ad G l yX2_noesOf cX2_noesOf 2 (some .int) 1 20 [.ref (ad o 0 0), .int a1] σ (qI Q) := by
  unfold d2_noesOf at h
  refine x_MC [(0, .ref (ad o 0 0)), (1, .int a1)] (by decide +kernel) rfl (Nat.le_of_ble_eq_true rfl) ?_
  intro E hG hl X
  replace X : FX ad E cX2_noesOf 2 RX2 (some .int) 1 20 := X
  refine r_iload_n X (x_dr DX2_noesOf 0 rfl) 1 rfl rfl ?_
  refine cl6_isHour_N X (k6_isHour h) (x_nm_mem 7 rfl) ⟨Nat.le_of_ble_eq_true rfl, Nat.le_of_ble_eq_true rfl⟩ (Nat.le_of_ble_eq_true rfl) (x_dr DX2_noesOf 1 rfl) (fun v2 s1 zv2 h => ?_)
  refine r_if_eq X 16 (x_dr DX2_noesOf 2 rfl) (by decide) (fun c3 => ?_) (fun c3 => ?_)
  · replace h := h.1 c3
    refine r_iconst (v := 0) X (x_dr DX2_noesOf 8 rfl) (by decide) ?_
    exact r_iret X rfl (x_dr DX2_noesOf 9 rfl) ⟨_, rfl, h⟩
  · replace h := h.2 c3
    refine r_aload_n X (x_dr DX2_noesOf 3 rfl) 0 rfl rfl ?_
    refine gf_2_60 X ho (x_dr DX2_noesOf 4 rfl) ?_
    refine r_iload_n X (x_dr DX2_noesOf 5 rfl) 1 rfl rfl ?_
    obtain ⟨b4, h⟩ := h
    refine r_iald X ho rfl b4 (x_dr DX2_noesOf 6 rfl) ?_
    refine r_goto X 17 (x_dr DX2_noesOf 7 rfl) (by decide) ?_
    exact r_iret X rfl (x_dr DX2_noesOf 9 rfl) ⟨_, rfl, h⟩
set_option maxRecDepth 10000 in
theorem k2_carries {ad : xAd} {G : xG} {l : Launch} {o : Nat} {a1 : Int32} {σ : xSt} {Q : Int32 → xSt → Prop} (ho : x_cl o = 2) (h : d2_carries o a1 σ Q) : MC ad G l yX2_carries cX2_carries 2 (some .boolean) 1 20 [.ref (ad o 0 0), .int a1] σ (qZ Q) := by
  unfold d2_carries at h
  refine x_MC [(0, .ref (ad o 0 0)), (1, .int a1)] (by decide +kernel) rfl (Nat.le_of_ble_eq_true rfl) ?_
  intro E hG hl X
  replace X : FX ad E cX2_carries 2 RX2 (some .boolean) 1 20 := X
  refine r_iload_n X (x_dr DX2_carries 0 rfl) 1 rfl rfl ?_
  refine cl6_isHour_N X (k6_isHour h) (x_nm_mem 7 rfl) ⟨Nat.le_of_ble_eq_true rfl, Nat.le_of_ble_eq_true rfl⟩ (Nat.le_of_ble_eq_true rfl) (x_dr DX2_carries 1 rfl) (fun v2 s1 zv2 h => ?_)
  refine r_if_eq X 26 (x_dr DX2_carries 2 rfl) (by decide) (fun c3 => ?_) (fun c3 => ?_)
  · replace h := h.1 c3
    refine r_iconst (v := 0) X (x_dr DX2_carries 14 rfl) (by decide) ?_
    exact r_zret X rfl (x_dr DX2_carries 15 rfl) (Or.inl rfl) ⟨_, rfl, (Or.inl rfl), h⟩
  · replace h := h.2 c3
    refine r_aload_n X (x_dr DX2_carries 3 rfl) 0 rfl rfl ?_
    refine gf_2_57 X ho (x_dr DX2_carries 4 rfl) ?_
    refine r_iload_n X (x_dr DX2_carries 5 rfl) 1 rfl rfl ?_
    obtain ⟨b4, h⟩ := h
    refine r_iald X ho rfl b4 (x_dr DX2_carries 6 rfl) ?_
    refine r_aload_n X (x_dr DX2_carries 7 rfl) 0 rfl rfl ?_
    refine gf_2_60 X ho (x_dr DX2_carries 8 rfl) ?_
    refine r_iload_n X (x_dr DX2_carries 9 rfl) 1 rfl rfl ?_
    obtain ⟨b5, h⟩ := h
    refine r_iald X ho rfl b5 (x_dr DX2_carries 10 rfl) ?_
    refine r_icmp_le X 26 (x_dr DX2_carries 11 rfl) (by decide) (fun c6 => ?_) (fun c6 => ?_)
    · replace h := h.1 c6
      refine r_iconst (v := 0) X (x_dr DX2_carries 14 rfl) (by decide) ?_
      exact r_zret X rfl (x_dr DX2_carries 15 rfl) (Or.inl rfl) ⟨_, rfl, (Or.inl rfl), h⟩
    · replace h := h.2 c6
      refine r_iconst (v := 1) X (x_dr DX2_carries 12 rfl) (by decide) ?_
      refine r_goto X 27 (x_dr DX2_carries 13 rfl) (by decide) ?_
      exact r_zret X rfl (x_dr DX2_carries 15 rfl) (Or.inr rfl) ⟨_, rfl, (Or.inr rfl), h⟩
set_option maxRecDepth 10000 in
theorem w2_carriedInAll_L4 {ad : xAd} {E : xE} (X : FX ad E cX2_carriedInAll 3 RX2 (some .int) 2 41) {o : Nat} (ho : x_cl o = 2) {K : Int32 → xSt → Prop} {Q : Int32 → xSt → Prop} : ∀ (n : Nat) (a1 : Int32) (a2 : Int32) (σ : xSt), d2_carriedInAll_L4 o K Q n a1 a2 σ → (∀ (a1 : Int32) (s : xSt), K a1 s → KK ad E (qI Q) 32 ([(1, .int a1)]) [] s) → KK ad E (qI Q) 4 ([(0, .ref (ad o 0 0)), (1, .int a1), (2, .int a2)]) [] σ := by
  intro n
  induction n with
  | zero => intro a1 a2 σ h kk; exact h.elim
  | succ n ih =>
    intro a1 a2 σ h kk
    rw [d2_carriedInAll_L4] at h
    refine r_iload_n X (x_dr DX2_carriedInAll 4 rfl) 2 rfl rfl ?_
    refine r_bipush (v := 20) X (x_dr DX2_carriedInAll 5 rfl) (by decide) ?_
    refine r_icmp_ge X 32 (x_dr DX2_carriedInAll 6 rfl) (by decide) (fun c1 => ?_) (fun c1 => ?_)
    · replace h := h.1 c1
      refine r_norm X [1] ([(1, .int a1)]) rfl ?_
      exact kk _ _ h
    · replace h := h.2 c1
      refine r_iload_n X (x_dr DX2_carriedInAll 7 rfl) 1 rfl rfl ?_
      refine r_aload_n X (x_dr DX2_carriedInAll 8 rfl) 0 rfl rfl ?_
      refine r_iload_n X (x_dr DX2_carriedInAll 9 rfl) 2 rfl rfl ?_
      refine cl2_carries X (k2_carries ho h) ho ml_2_147 ⟨Nat.le_of_ble_eq_true rfl, Nat.le_of_ble_eq_true rfl⟩ (Nat.le_of_ble_eq_true rfl) (x_dr DX2_carriedInAll 10 rfl) (fun v3 s2 zv3 h => ?_)
      obtain ⟨j6, ej6, h⟩ := x_jn h
      have Jj6 : ∀ (v5 : Int32), j6 v5 → KK ad E (qI Q) 24 ([(0, .ref (ad o 0 0)), (2, .int a2)]) [.int v5, .int a1] s2 := by
        intro v5 h
        rw [ej6] at h
        refine r_iadd X (x_dr DX2_carriedInAll 15 rfl) ?_
        refine r_nmI (fun v7 ev7 => ?_)
        replace h := h v7 ev7
        refine r_istore_n X ([(1, .int v7), (0, .ref (ad o 0 0)), (2, .int a2)]) (x_dr DX2_carriedInAll 16 rfl) rfl (by decide) rfl ?_
        obtain ⟨v8, ev8⟩ : ∃ z : Int32, z = a2 + 1 := ⟨_, rfl⟩
        replace h := h v8 ev8
        refine r_iinc (v := v8) X ([(2, .int v8), (1, .int v7), (0, .ref (ad o 0 0))]) 2 (x_dr DX2_carriedInAll 17 rfl) rfl (by rw [ev8]; rfl) (by decide) rfl ?_
        refine r_goto X 4 (x_dr DX2_carriedInAll 18 rfl) (by decide) ?_
        refine r_norm X [2, 1, 0] ([(0, .ref (ad o 0 0)), (1, .int v7), (2, .int v8)]) rfl ?_
        exact ih _ _ _ h kk
      refine r_if_eq X 23 (x_dr DX2_carriedInAll 11 rfl) (by decide) (fun c9 => ?_) (fun c9 => ?_)
      · replace h := h.1 c9
        refine r_iconst (v := 0) X (x_dr DX2_carriedInAll 14 rfl) (by decide) ?_
        refine r_norm X [0, 2] ([(0, .ref (ad o 0 0)), (2, .int a2)]) rfl ?_
        exact Jj6 _ h
      · replace h := h.2 c9
        refine r_iconst (v := 1) X (x_dr DX2_carriedInAll 12 rfl) (by decide) ?_
        refine r_goto X 24 (x_dr DX2_carriedInAll 13 rfl) (by decide) ?_
        refine r_norm X [0, 2] ([(0, .ref (ad o 0 0)), (2, .int a2)]) rfl ?_
        exact Jj6 _ h
set_option maxRecDepth 10000 in
theorem k2_carriedInAll {ad : xAd} {G : xG} {l : Launch} {o : Nat} {σ : xSt} {Q : Int32 → xSt → Prop} (ho : x_cl o = 2) (h : d2_carriedInAll o σ Q) : MC ad G l yX2_carriedInAll cX2_carriedInAll 3 (some .int) 2 41 [.ref (ad o 0 0)] σ (qI Q) := by
  unfold d2_carriedInAll at h
  refine x_MC [(0, .ref (ad o 0 0))] (by decide +kernel) rfl (Nat.le_of_ble_eq_true rfl) ?_
  intro E hG hl X
  replace X : FX ad E cX2_carriedInAll 3 RX2 (some .int) 2 41 := X
  refine r_iconst (v := 0) X (x_dr DX2_carriedInAll 0 rfl) (by decide) ?_
  refine r_istore_n X ([(1, .int 0), (0, .ref (ad o 0 0))]) (x_dr DX2_carriedInAll 1 rfl) rfl (by decide) rfl ?_
  refine r_iconst (v := 0) X (x_dr DX2_carriedInAll 2 rfl) (by decide) ?_
  refine r_istore_n X ([(2, .int 0), (1, .int 0), (0, .ref (ad o 0 0))]) (x_dr DX2_carriedInAll 3 rfl) rfl (by decide) rfl ?_
  refine r_norm X [2, 1, 0] ([(0, .ref (ad o 0 0)), (1, .int 0), (2, .int 0)]) rfl ?_
  refine w2_carriedInAll_L4 X ho _ _ _ _ h (fun v11 s10 h => ?_)
  refine r_iload_n X (x_dr DX2_carriedInAll 19 rfl) 0 rfl rfl ?_
  exact r_iret X rfl (x_dr DX2_carriedInAll 20 rfl) ⟨_, rfl, h⟩
set_option maxRecDepth 10000 in
theorem w2_governmentsInAll_L4 {ad : xAd} {E : xE} (X : FX ad E cX2_governmentsInAll 3 RX2 (some .int) 2 41) {o : Nat} (ho : x_cl o = 2) {K : Int32 → xSt → Prop} {Q : Int32 → xSt → Prop} : ∀ (n : Nat) (a1 : Int32) (a2 : Int32) (σ : xSt), d2_governmentsInAll_L4 o K Q n a1 a2 σ → (∀ (a1 : Int32) (s : xSt), K a1 s → KK ad E (qI Q) 39 ([(1, .int a1)]) [] s) → KK ad E (qI Q) 4 ([(0, .ref (ad o 0 0)), (1, .int a1), (2, .int a2)]) [] σ := by
  intro n
  induction n with
  | zero => intro a1 a2 σ h kk; exact h.elim
  | succ n ih =>
    intro a1 a2 σ h kk
    rw [d2_governmentsInAll_L4] at h
    refine r_iload_n X (x_dr DX2_governmentsInAll 4 rfl) 2 rfl rfl ?_
    refine r_bipush (v := 20) X (x_dr DX2_governmentsInAll 5 rfl) (by decide) ?_
    refine r_icmp_ge X 39 (x_dr DX2_governmentsInAll 6 rfl) (by decide) (fun c1 => ?_) (fun c1 => ?_)
    · replace h := h.1 c1
      refine r_norm X [1] ([(1, .int a1)]) rfl ?_
      exact kk _ _ h
    · replace h := h.2 c1
      refine r_iload_n X (x_dr DX2_governmentsInAll 7 rfl) 1 rfl rfl ?_
      refine r_aload_n X (x_dr DX2_governmentsInAll 8 rfl) 0 rfl rfl ?_
      refine r_iload_n X (x_dr DX2_governmentsInAll 9 rfl) 2 rfl rfl ?_
      refine cl2_carries X (k2_carries ho h) ho ml_2_147 ⟨Nat.le_of_ble_eq_true rfl, Nat.le_of_ble_eq_true rfl⟩ (Nat.le_of_ble_eq_true rfl) (x_dr DX2_governmentsInAll 10 rfl) (fun v3 s2 zv3 h => ?_)
      refine r_aload_n X (x_dr DX2_governmentsInAll 11 rfl) 0 rfl rfl ?_
      refine r_iload_n X (x_dr DX2_governmentsInAll 12 rfl) 2 rfl rfl ?_
      refine r_iconst (v := 1) X (x_dr DX2_governmentsInAll 13 rfl) (by decide) ?_
      refine r_isub X (x_dr DX2_governmentsInAll 14 rfl) ?_
      refine cl2_carries X (k2_carries ho h) ho ml_2_147 ⟨Nat.le_of_ble_eq_true rfl, Nat.le_of_ble_eq_true rfl⟩ (Nat.le_of_ble_eq_true rfl) (x_dr DX2_governmentsInAll 15 rfl) (fun v5 s4 zv5 h => ?_)
      obtain ⟨j8, ej8, h⟩ := x_jn h
      have Jj8 : ∀ (v7 : Int32), j8 v7 → KK ad E (qI Q) 31 ([(0, .ref (ad o 0 0)), (2, .int a2)]) [.int v7, .int a1] s4 := by
        intro v7 h
        rw [ej8] at h
        refine r_iadd X (x_dr DX2_governmentsInAll 20 rfl) ?_
        refine r_nmI (fun v9 ev9 => ?_)
        replace h := h v9 ev9
        refine r_istore_n X ([(1, .int v9), (0, .ref (ad o 0 0)), (2, .int a2)]) (x_dr DX2_governmentsInAll 21 rfl) rfl (by decide) rfl ?_
        obtain ⟨v10, ev10⟩ : ∃ z : Int32, z = a2 + 1 := ⟨_, rfl⟩
        replace h := h v10 ev10
        refine r_iinc (v := v10) X ([(2, .int v10), (1, .int v9), (0, .ref (ad o 0 0))]) 2 (x_dr DX2_governmentsInAll 22 rfl) rfl (by rw [ev10]; rfl) (by decide) rfl ?_
        refine r_goto X 4 (x_dr DX2_governmentsInAll 23 rfl) (by decide) ?_
        refine r_norm X [2, 1, 0] ([(0, .ref (ad o 0 0)), (1, .int v9), (2, .int v10)]) rfl ?_
        exact ih _ _ _ h kk
      refine r_icmp_eq X 30 (x_dr DX2_governmentsInAll 16 rfl) (by decide) (fun c11 => ?_) (fun c11 => ?_)
      · replace h := h.1 c11
        refine r_iconst (v := 0) X (x_dr DX2_governmentsInAll 19 rfl) (by decide) ?_
        refine r_norm X [0, 2] ([(0, .ref (ad o 0 0)), (2, .int a2)]) rfl ?_
        exact Jj8 _ h
      · replace h := h.2 c11
        refine r_iconst (v := 1) X (x_dr DX2_governmentsInAll 17 rfl) (by decide) ?_
        refine r_goto X 31 (x_dr DX2_governmentsInAll 18 rfl) (by decide) ?_
        refine r_norm X [0, 2] ([(0, .ref (ad o 0 0)), (2, .int a2)]) rfl ?_
        exact Jj8 _ h
set_option maxRecDepth 10000 in
theorem k2_governmentsInAll {ad : xAd} {G : xG} {l : Launch} {o : Nat} {σ : xSt} {Q : Int32 → xSt → Prop} (ho : x_cl o = 2) (h : d2_governmentsInAll o σ Q) : MC ad G l yX2_governmentsInAll cX2_governmentsInAll 3 (some .int) 2 41 [.ref (ad o 0 0)] σ (qI Q) := by
  unfold d2_governmentsInAll at h
  refine x_MC [(0, .ref (ad o 0 0))] (by decide +kernel) rfl (Nat.le_of_ble_eq_true rfl) ?_
  intro E hG hl X
  replace X : FX ad E cX2_governmentsInAll 3 RX2 (some .int) 2 41 := X
  refine r_iconst (v := 0) X (x_dr DX2_governmentsInAll 0 rfl) (by decide) ?_
  refine r_istore_n X ([(1, .int 0), (0, .ref (ad o 0 0))]) (x_dr DX2_governmentsInAll 1 rfl) rfl (by decide) rfl ?_
  refine r_iconst (v := 1) X (x_dr DX2_governmentsInAll 2 rfl) (by decide) ?_
  refine r_istore_n X ([(2, .int 1), (1, .int 0), (0, .ref (ad o 0 0))]) (x_dr DX2_governmentsInAll 3 rfl) rfl (by decide) rfl ?_
  refine r_norm X [2, 1, 0] ([(0, .ref (ad o 0 0)), (1, .int 0), (2, .int 1)]) rfl ?_
  refine w2_governmentsInAll_L4 X ho _ _ _ _ h (fun v13 s12 h => ?_)
  refine r_iload_n X (x_dr DX2_governmentsInAll 24 rfl) 0 rfl rfl ?_
  exact r_iret X rfl (x_dr DX2_governmentsInAll 25 rfl) ⟨_, rfl, h⟩
set_option maxRecDepth 10000 in
theorem w2_ayesInAll_L4 {ad : xAd} {E : xE} (X : FX ad E cX2_ayesInAll 3 RX2 (some .int) 0 0) {o : Nat} (ho : x_cl o = 2) {K : Int32 → xSt → Prop} {Q : Int32 → xSt → Prop} : ∀ (n : Nat) (a1 : Int32) (a2 : Int32) (σ : xSt), d2_ayesInAll_L4 o K Q n a1 a2 σ → (∀ (a1 : Int32) (s : xSt), K a1 s → KK ad E (qI Q) 25 ([(1, .int a1)]) [] s) → KK ad E (qI Q) 4 ([(0, .ref (ad o 0 0)), (1, .int a1), (2, .int a2)]) [] σ := by
  intro n
  induction n with
  | zero => intro a1 a2 σ h kk; exact h.elim
  | succ n ih =>
    intro a1 a2 σ h kk
    rw [d2_ayesInAll_L4] at h
    refine r_iload_n X (x_dr DX2_ayesInAll 4 rfl) 2 rfl rfl ?_
    refine r_bipush (v := 20) X (x_dr DX2_ayesInAll 5 rfl) (by decide) ?_
    refine r_icmp_ge X 25 (x_dr DX2_ayesInAll 6 rfl) (by decide) (fun c1 => ?_) (fun c1 => ?_)
    · replace h := h.1 c1
      refine r_norm X [1] ([(1, .int a1)]) rfl ?_
      exact kk _ _ h
    · replace h := h.2 c1
      refine r_iload_n X (x_dr DX2_ayesInAll 7 rfl) 1 rfl rfl ?_
      refine r_aload_n X (x_dr DX2_ayesInAll 8 rfl) 0 rfl rfl ?_
      refine gf_2_57 X ho (x_dr DX2_ayesInAll 9 rfl) ?_
      refine r_iload_n X (x_dr DX2_ayesInAll 10 rfl) 2 rfl rfl ?_
      obtain ⟨b2, h⟩ := h
      refine r_iald X ho rfl b2 (x_dr DX2_ayesInAll 11 rfl) ?_
      refine r_iadd X (x_dr DX2_ayesInAll 12 rfl) ?_
      refine r_nmI (fun v3 ev3 => ?_)
      replace h := h v3 ev3
      refine r_istore_n X ([(1, .int v3), (0, .ref (ad o 0 0)), (2, .int a2)]) (x_dr DX2_ayesInAll 13 rfl) rfl (by decide) rfl ?_
      obtain ⟨v4, ev4⟩ : ∃ z : Int32, z = a2 + 1 := ⟨_, rfl⟩
      replace h := h v4 ev4
      refine r_iinc (v := v4) X ([(2, .int v4), (1, .int v3), (0, .ref (ad o 0 0))]) 2 (x_dr DX2_ayesInAll 14 rfl) rfl (by rw [ev4]; rfl) (by decide) rfl ?_
      refine r_goto X 4 (x_dr DX2_ayesInAll 15 rfl) (by decide) ?_
      refine r_norm X [2, 1, 0] ([(0, .ref (ad o 0 0)), (1, .int v3), (2, .int v4)]) rfl ?_
      exact ih _ _ _ h kk
set_option maxRecDepth 10000 in
theorem k2_ayesInAll {ad : xAd} {G : xG} {l : Launch} {o : Nat} {σ : xSt} {Q : Int32 → xSt → Prop} (ho : x_cl o = 2) (h : d2_ayesInAll o σ Q) : MC ad G l yX2_ayesInAll cX2_ayesInAll 3 (some .int) 0 0 [.ref (ad o 0 0)] σ (qI Q) := by
  unfold d2_ayesInAll at h
  refine x_MC [(0, .ref (ad o 0 0))] (by decide +kernel) rfl (Nat.le_of_ble_eq_true rfl) ?_
  intro E hG hl X
  replace X : FX ad E cX2_ayesInAll 3 RX2 (some .int) 0 0 := X
  refine r_iconst (v := 0) X (x_dr DX2_ayesInAll 0 rfl) (by decide) ?_
  refine r_istore_n X ([(1, .int 0), (0, .ref (ad o 0 0))]) (x_dr DX2_ayesInAll 1 rfl) rfl (by decide) rfl ?_
  refine r_iconst (v := 0) X (x_dr DX2_ayesInAll 2 rfl) (by decide) ?_
  refine r_istore_n X ([(2, .int 0), (1, .int 0), (0, .ref (ad o 0 0))]) (x_dr DX2_ayesInAll 3 rfl) rfl (by decide) rfl ?_
  refine r_norm X [2, 1, 0] ([(0, .ref (ad o 0 0)), (1, .int 0), (2, .int 0)]) rfl ?_
  refine w2_ayesInAll_L4 X ho _ _ _ _ h (fun v6 s5 h => ?_)
  refine r_iload_n X (x_dr DX2_ayesInAll 16 rfl) 0 rfl rfl ?_
  exact r_iret X rfl (x_dr DX2_ayesInAll 17 rfl) ⟨_, rfl, h⟩
set_option maxRecDepth 10000 in
theorem w2_speechesInAll_L4 {ad : xAd} {E : xE} (X : FX ad E cX2_speechesInAll 3 RX2 (some .int) 0 0) {o : Nat} (ho : x_cl o = 2) {K : Int32 → xSt → Prop} {Q : Int32 → xSt → Prop} : ∀ (n : Nat) (a1 : Int32) (a2 : Int32) (σ : xSt), d2_speechesInAll_L4 o K Q n a1 a2 σ → (∀ (a1 : Int32) (s : xSt), K a1 s → KK ad E (qI Q) 27 ([(1, .int a1)]) [] s) → KK ad E (qI Q) 4 ([(0, .ref (ad o 0 0)), (1, .int a1), (2, .int a2)]) [] σ := by
  intro n
  induction n with
  | zero => intro a1 a2 σ h kk; exact h.elim
  | succ n ih =>
    intro a1 a2 σ h kk
    rw [d2_speechesInAll_L4] at h
    refine r_iload_n X (x_dr DX2_speechesInAll 4 rfl) 2 rfl rfl ?_
    refine r_aload_n X (x_dr DX2_speechesInAll 5 rfl) 0 rfl rfl ?_
    refine gf_2_103 X ho (x_dr DX2_speechesInAll 6 rfl) ?_
    refine r_icmp_ge X 27 (x_dr DX2_speechesInAll 7 rfl) (by decide) (fun c1 => ?_) (fun c1 => ?_)
    · replace h := h.1 c1
      refine r_norm X [1] ([(1, .int a1)]) rfl ?_
      exact kk _ _ h
    · replace h := h.2 c1
      refine r_iload_n X (x_dr DX2_speechesInAll 8 rfl) 1 rfl rfl ?_
      refine r_aload_n X (x_dr DX2_speechesInAll 9 rfl) 0 rfl rfl ?_
      refine gf_2_34 X ho (x_dr DX2_speechesInAll 10 rfl) ?_
      refine r_iload_n X (x_dr DX2_speechesInAll 11 rfl) 2 rfl rfl ?_
      obtain ⟨b2, h⟩ := h
      refine r_iald X ho rfl b2 (x_dr DX2_speechesInAll 12 rfl) ?_
      refine r_iadd X (x_dr DX2_speechesInAll 13 rfl) ?_
      refine r_nmI (fun v3 ev3 => ?_)
      replace h := h v3 ev3
      refine r_istore_n X ([(1, .int v3), (0, .ref (ad o 0 0)), (2, .int a2)]) (x_dr DX2_speechesInAll 14 rfl) rfl (by decide) rfl ?_
      obtain ⟨v4, ev4⟩ : ∃ z : Int32, z = a2 + 1 := ⟨_, rfl⟩
      replace h := h v4 ev4
      refine r_iinc (v := v4) X ([(2, .int v4), (1, .int v3), (0, .ref (ad o 0 0))]) 2 (x_dr DX2_speechesInAll 15 rfl) rfl (by rw [ev4]; rfl) (by decide) rfl ?_
      refine r_goto X 4 (x_dr DX2_speechesInAll 16 rfl) (by decide) ?_
      refine r_norm X [2, 1, 0] ([(0, .ref (ad o 0 0)), (1, .int v3), (2, .int v4)]) rfl ?_
      exact ih _ _ _ h kk
set_option maxRecDepth 10000 in
theorem k2_speechesInAll {ad : xAd} {G : xG} {l : Launch} {o : Nat} {σ : xSt} {Q : Int32 → xSt → Prop} (ho : x_cl o = 2) (h : d2_speechesInAll o σ Q) : MC ad G l yX2_speechesInAll cX2_speechesInAll 3 (some .int) 0 0 [.ref (ad o 0 0)] σ (qI Q) := by
  unfold d2_speechesInAll at h
  refine x_MC [(0, .ref (ad o 0 0))] (by decide +kernel) rfl (Nat.le_of_ble_eq_true rfl) ?_
  intro E hG hl X
  replace X : FX ad E cX2_speechesInAll 3 RX2 (some .int) 0 0 := X
  refine r_iconst (v := 0) X (x_dr DX2_speechesInAll 0 rfl) (by decide) ?_
  refine r_istore_n X ([(1, .int 0), (0, .ref (ad o 0 0))]) (x_dr DX2_speechesInAll 1 rfl) rfl (by decide) rfl ?_
  refine r_iconst (v := 0) X (x_dr DX2_speechesInAll 2 rfl) (by decide) ?_
  refine r_istore_n X ([(2, .int 0), (1, .int 0), (0, .ref (ad o 0 0))]) (x_dr DX2_speechesInAll 3 rfl) rfl (by decide) rfl ?_
  refine r_norm X [2, 1, 0] ([(0, .ref (ad o 0 0)), (1, .int 0), (2, .int 0)]) rfl ?_
  refine w2_speechesInAll_L4 X ho _ _ _ _ h (fun v6 s5 h => ?_)
  refine r_iload_n X (x_dr DX2_speechesInAll 17 rfl) 0 rfl rfl ?_
  exact r_iret X rfl (x_dr DX2_speechesInAll 18 rfl) ⟨_, rfl, h⟩
set_option maxRecDepth 10000 in
theorem k2_stillMembers {ad : xAd} {G : xG} {l : Launch} {o : Nat} {σ : xSt} {Q : Int32 → xSt → Prop} (ho : x_cl o = 2) (h : d2_stillMembers o σ Q) : MC ad G l yX2_stillMembers cX2_stillMembers 1 (some .int) 0 0 [.ref (ad o 0 0)] σ (qI Q) := by
  unfold d2_stillMembers at h
  refine x_MC [(0, .ref (ad o 0 0))] (by decide +kernel) rfl (Nat.le_of_ble_eq_true rfl) ?_
  intro E hG hl X
  replace X : FX ad E cX2_stillMembers 1 RX2 (some .int) 0 0 := X
  refine r_iconst (v := 1) X (x_dr DX2_stillMembers 0 rfl) (by decide) ?_
  refine r_aload_n X (x_dr DX2_stillMembers 1 rfl) 0 rfl rfl ?_
  refine gf_2_103 X ho (x_dr DX2_stillMembers 2 rfl) ?_
  refine r_ishl X (x_dr DX2_stillMembers 3 rfl) ?_
  refine r_iconst (v := 1) X (x_dr DX2_stillMembers 4 rfl) (by decide) ?_
  refine r_isub X (x_dr DX2_stillMembers 5 rfl) ?_
  refine r_aload_n X (x_dr DX2_stillMembers 6 rfl) 0 rfl rfl ?_
  refine gf_2_104 X ho (x_dr DX2_stillMembers 7 rfl) ?_
  refine r_iconst (v := (-1)) X (x_dr DX2_stillMembers 8 rfl) (by decide) ?_
  refine r_ixor X (x_dr DX2_stillMembers 9 rfl) ?_
  refine r_iand X (x_dr DX2_stillMembers 10 rfl) ?_
  exact r_iret X rfl (x_dr DX2_stillMembers 11 rfl) ⟨_, rfl, h⟩
set_option maxRecDepth 10000 in
theorem w3_renew_L21 {ad : xAd} {E : xE} (X : FX ad E cX3_renew 4 RX3 none 1 21) {o : Nat} (ho : x_cl o = 3) {K : xSt → Prop} {Q : xSt → Prop} : ∀ (n : Nat) (a3 : Int32) (σ : xSt), d3_renew_L21 o K Q n a3 σ → (∀ (s : xSt), K  s → KK ad E (qV Q) 42 ([]) [] s) → KK ad E (qV Q) 21 ([(0, .ref (ad o 0 0)), (3, .int a3)]) [] σ := by
  intro n
  induction n with
  | zero => intro a3 σ h kk; exact h.elim
  | succ n ih =>
    intro a3 σ h kk
    rw [d3_renew_L21] at h
    refine r_iload_n X (x_dr DX3_renew 12 rfl) 1 rfl rfl ?_
    refine r_aload_n X (x_dr DX3_renew 13 rfl) 0 rfl rfl ?_
    refine gf_3_28 X ho (x_dr DX3_renew 14 rfl) ?_
    refine r_icmp_ge X 42 (x_dr DX3_renew 15 rfl) (by decide) (fun c3 => ?_) (fun c3 => ?_)
    · replace h := h.1 c3
      refine r_norm X [] ([]) rfl ?_
      exact kk  _ h
    · replace h := h.2 c3
      refine r_aload_n X (x_dr DX3_renew 16 rfl) 0 rfl rfl ?_
      refine gf_3_9 X ho (x_dr DX3_renew 17 rfl) ?_
      refine r_iload_n X (x_dr DX3_renew 18 rfl) 1 rfl rfl ?_
      refine r_iconst (v := 0) X (x_dr DX3_renew 19 rfl) (by decide) ?_
      obtain ⟨b4, h⟩ := h
      refine r_iast X ho rfl b4 (x_dr DX3_renew 20 rfl) ?_
      refine r_nmS (fun s5 es5 => ?_)
      replace h := h s5 es5
      obtain ⟨v6, ev6⟩ : ∃ z : Int32, z = a3 + 1 := ⟨_, rfl⟩
      replace h := h v6 ev6
      refine r_iinc (v := v6) X ([(3, .int v6), (0, .ref (ad o 0 0))]) 1 (x_dr DX3_renew 21 rfl) rfl (by rw [ev6]; rfl) (by decide) rfl ?_
      refine r_goto X 21 (x_dr DX3_renew 22 rfl) (by decide) ?_
      refine r_norm X [1, 0] ([(0, .ref (ad o 0 0)), (3, .int v6)]) rfl ?_
      exact ih _ _ h kk
set_option maxRecDepth 10000 in
theorem k3_renew {ad : xAd} {G : xG} {l : Launch} {o : Nat} {a1 : Int32} {a2 : Int32} {σ : xSt} {Q : xSt → Prop} (ho : x_cl o = 3) (h : d3_renew o a1 a2 σ Q) : MC ad G l yX3_renew cX3_renew 4 none 1 21 [.ref (ad o 0 0), .int a1, .int a2] σ (qV Q) := by
  unfold d3_renew at h
  refine x_MC [(0, .ref (ad o 0 0)), (1, .int a1), (2, .int a2)] (by decide +kernel) rfl (Nat.le_of_ble_eq_true rfl) ?_
  intro E hG hl X
  replace X : FX ad E cX3_renew 4 RX3 none 1 21 := X
  refine r_aload_n X (x_dr DX3_renew 0 rfl) 0 rfl rfl ?_
  refine r_iload_n X (x_dr DX3_renew 1 rfl) 1 rfl rfl ?_
  refine pf_3_15 X ho (x_dr DX3_renew 2 rfl) ?_
  refine r_nmS (fun s1 es1 => ?_)
  replace h := h s1 es1
  refine r_aload_n X (x_dr DX3_renew 3 rfl) 0 rfl rfl ?_
  refine r_iconst (v := 0) X (x_dr DX3_renew 4 rfl) (by decide) ?_
  refine r_iload_n X (x_dr DX3_renew 5 rfl) 2 rfl rfl ?_
  refine r_bipush (v := 60) X (x_dr DX3_renew 6 rfl) (by decide) ?_
  refine r_mmin X ml_3_19 ⟨Nat.le_of_ble_eq_true rfl, Nat.le_of_ble_eq_true rfl⟩ (x_dr DX3_renew 7 rfl) ?_
  refine r_mmax X ml_3_25 ⟨Nat.le_of_ble_eq_true rfl, Nat.le_of_ble_eq_true rfl⟩ (x_dr DX3_renew 8 rfl) ?_
  refine pf_3_28 X ho (x_dr DX3_renew 9 rfl) ?_
  refine r_nmS (fun s2 es2 => ?_)
  replace h := h s2 es2
  refine r_iconst (v := 0) X (x_dr DX3_renew 10 rfl) (by decide) ?_
  refine r_istore_n X ([(3, .int 0), (0, .ref (ad o 0 0)), (1, .int a1), (2, .int a2)]) (x_dr DX3_renew 11 rfl) rfl (by decide) rfl ?_
  refine r_norm X [1, 0] ([(0, .ref (ad o 0 0)), (3, .int 0)]) rfl ?_
  refine w3_renew_L21 X ho _ _ _ h (fun s7 h => ?_)
  exact r_vret X rfl (x_dr DX3_renew 23 rfl) ⟨rfl, h⟩
set_option maxRecDepth 10000 in
theorem k3_isLost {ad : xAd} {G : xG} {l : Launch} {o : Nat} {σ : xSt} {Q : Int32 → xSt → Prop} (ho : x_cl o = 3) (h : d3_isLost o σ Q) : MC ad G l yX3_isLost cX3_isLost 1 (some .boolean) 0 0 [.ref (ad o 0 0)] σ (qZ Q) := by
  unfold d3_isLost at h
  refine x_MC [(0, .ref (ad o 0 0))] (by decide +kernel) rfl (Nat.le_of_ble_eq_true rfl) ?_
  intro E hG hl X
  replace X : FX ad E cX3_isLost 1 RX3 (some .boolean) 0 0 := X
  refine r_aload_n X (x_dr DX3_isLost 0 rfl) 0 rfl rfl ?_
  refine gf_3_15 X ho (x_dr DX3_isLost 1 rfl) ?_
  refine r_iconst (v := (-1)) X (x_dr DX3_isLost 2 rfl) (by decide) ?_
  refine r_icmp_ne X 12 (x_dr DX3_isLost 3 rfl) (by decide) (fun c1 => ?_) (fun c1 => ?_)
  · replace h := h.1 c1
    refine r_iconst (v := 0) X (x_dr DX3_isLost 6 rfl) (by decide) ?_
    exact r_zret X rfl (x_dr DX3_isLost 7 rfl) (Or.inl rfl) ⟨_, rfl, (Or.inl rfl), h⟩
  · replace h := h.2 c1
    refine r_iconst (v := 1) X (x_dr DX3_isLost 4 rfl) (by decide) ?_
    refine r_goto X 13 (x_dr DX3_isLost 5 rfl) (by decide) ?_
    exact r_zret X rfl (x_dr DX3_isLost 7 rfl) (Or.inr rfl) ⟨_, rfl, (Or.inr rfl), h⟩
set_option maxRecDepth 10000 in
theorem k3_hasItem {ad : xAd} {G : xG} {l : Launch} {o : Nat} {a1 : Int32} {σ : xSt} {Q : Int32 → xSt → Prop} (ho : x_cl o = 3) (h : d3_hasItem o a1 σ Q) : MC ad G l yX3_hasItem cX3_hasItem 2 (some .boolean) 0 0 [.ref (ad o 0 0), .int a1] σ (qZ Q) := by
  unfold d3_hasItem at h
  refine x_MC [(0, .ref (ad o 0 0)), (1, .int a1)] (by decide +kernel) rfl (Nat.le_of_ble_eq_true rfl) ?_
  intro E hG hl X
  replace X : FX ad E cX3_hasItem 2 RX3 (some .boolean) 0 0 := X
  refine r_iload_n X (x_dr DX3_hasItem 0 rfl) 1 rfl rfl ?_
  refine r_if_lt X 22 (x_dr DX3_hasItem 1 rfl) (by decide) (fun c1 => ?_) (fun c1 => ?_)
  · replace h := h.1 c1
    refine r_iconst (v := 0) X (x_dr DX3_hasItem 11 rfl) (by decide) ?_
    exact r_zret X rfl (x_dr DX3_hasItem 12 rfl) (Or.inl rfl) ⟨_, rfl, (Or.inl rfl), h⟩
  · replace h := h.2 c1
    refine r_iload_n X (x_dr DX3_hasItem 2 rfl) 1 rfl rfl ?_
    refine r_aload_n X (x_dr DX3_hasItem 3 rfl) 0 rfl rfl ?_
    refine gf_3_28 X ho (x_dr DX3_hasItem 4 rfl) ?_
    refine r_icmp_ge X 22 (x_dr DX3_hasItem 5 rfl) (by decide) (fun c2 => ?_) (fun c2 => ?_)
    · replace h := h.1 c2
      refine r_iconst (v := 0) X (x_dr DX3_hasItem 11 rfl) (by decide) ?_
      exact r_zret X rfl (x_dr DX3_hasItem 12 rfl) (Or.inl rfl) ⟨_, rfl, (Or.inl rfl), h⟩
    · replace h := h.2 c2
      refine r_iload_n X (x_dr DX3_hasItem 6 rfl) 1 rfl rfl ?_
      refine r_bipush (v := 60) X (x_dr DX3_hasItem 7 rfl) (by decide) ?_
      refine r_icmp_ge X 22 (x_dr DX3_hasItem 8 rfl) (by decide) (fun c3 => ?_) (fun c3 => ?_)
      · replace h := h.1 c3
        refine r_iconst (v := 0) X (x_dr DX3_hasItem 11 rfl) (by decide) ?_
        exact r_zret X rfl (x_dr DX3_hasItem 12 rfl) (Or.inl rfl) ⟨_, rfl, (Or.inl rfl), h⟩
      · replace h := h.2 c3
        refine r_iconst (v := 1) X (x_dr DX3_hasItem 9 rfl) (by decide) ?_
        refine r_goto X 23 (x_dr DX3_hasItem 10 rfl) (by decide) ?_
        exact r_zret X rfl (x_dr DX3_hasItem 12 rfl) (Or.inr rfl) ⟨_, rfl, (Or.inr rfl), h⟩
set_option maxRecDepth 10000 in
theorem k3_hasRun {ad : xAd} {G : xG} {l : Launch} {o : Nat} {a1 : Int32} {a2 : Int32} {σ : xSt} {Q : Int32 → xSt → Prop} (ho : x_cl o = 3) (h : d3_hasRun o a1 a2 σ Q) : MC ad G l yX3_hasRun cX3_hasRun 3 (some .boolean) 0 0 [.ref (ad o 0 0), .int a1, .int a2] σ (qZ Q) := by
  unfold d3_hasRun at h
  refine x_MC [(0, .ref (ad o 0 0)), (1, .int a1), (2, .int a2)] (by decide +kernel) rfl (Nat.le_of_ble_eq_true rfl) ?_
  intro E hG hl X
  replace X : FX ad E cX3_hasRun 3 RX3 (some .boolean) 0 0 := X
  refine r_iload_n X (x_dr DX3_hasRun 0 rfl) 1 rfl rfl ?_
  refine r_if_lt X 30 (x_dr DX3_hasRun 1 rfl) (by decide) (fun c1 => ?_) (fun c1 => ?_)
  · replace h := h.1 c1
    refine r_iconst (v := 0) X (x_dr DX3_hasRun 16 rfl) (by decide) ?_
    exact r_zret X rfl (x_dr DX3_hasRun 17 rfl) (Or.inl rfl) ⟨_, rfl, (Or.inl rfl), h⟩
  · replace h := h.2 c1
    refine r_iload_n X (x_dr DX3_hasRun 2 rfl) 2 rfl rfl ?_
    refine r_if_lt X 30 (x_dr DX3_hasRun 3 rfl) (by decide) (fun c2 => ?_) (fun c2 => ?_)
    · replace h := h.1 c2
      refine r_iconst (v := 0) X (x_dr DX3_hasRun 16 rfl) (by decide) ?_
      exact r_zret X rfl (x_dr DX3_hasRun 17 rfl) (Or.inl rfl) ⟨_, rfl, (Or.inl rfl), h⟩
    · replace h := h.2 c2
      refine r_iload_n X (x_dr DX3_hasRun 4 rfl) 1 rfl rfl ?_
      refine r_aload_n X (x_dr DX3_hasRun 5 rfl) 0 rfl rfl ?_
      refine gf_3_28 X ho (x_dr DX3_hasRun 6 rfl) ?_
      refine r_icmp_gt X 30 (x_dr DX3_hasRun 7 rfl) (by decide) (fun c3 => ?_) (fun c3 => ?_)
      · replace h := h.1 c3
        refine r_iconst (v := 0) X (x_dr DX3_hasRun 16 rfl) (by decide) ?_
        exact r_zret X rfl (x_dr DX3_hasRun 17 rfl) (Or.inl rfl) ⟨_, rfl, (Or.inl rfl), h⟩
      · replace h := h.2 c3
        refine r_iload_n X (x_dr DX3_hasRun 8 rfl) 2 rfl rfl ?_
        refine r_aload_n X (x_dr DX3_hasRun 9 rfl) 0 rfl rfl ?_
        refine gf_3_28 X ho (x_dr DX3_hasRun 10 rfl) ?_
        refine r_iload_n X (x_dr DX3_hasRun 11 rfl) 1 rfl rfl ?_
        refine r_isub X (x_dr DX3_hasRun 12 rfl) ?_
        refine r_icmp_gt X 30 (x_dr DX3_hasRun 13 rfl) (by decide) (fun c4 => ?_) (fun c4 => ?_)
        · replace h := h.1 c4
          refine r_iconst (v := 0) X (x_dr DX3_hasRun 16 rfl) (by decide) ?_
          exact r_zret X rfl (x_dr DX3_hasRun 17 rfl) (Or.inl rfl) ⟨_, rfl, (Or.inl rfl), h⟩
        · replace h := h.2 c4
          refine r_iconst (v := 1) X (x_dr DX3_hasRun 14 rfl) (by decide) ?_
          refine r_goto X 31 (x_dr DX3_hasRun 15 rfl) (by decide) ?_
          exact r_zret X rfl (x_dr DX3_hasRun 17 rfl) (Or.inr rfl) ⟨_, rfl, (Or.inr rfl), h⟩
set_option maxRecDepth 10000 in
theorem k3_item {ad : xAd} {G : xG} {l : Launch} {o : Nat} {a1 : Int32} {σ : xSt} {Q : Int32 → xSt → Prop} (ho : x_cl o = 3) (h : d3_item o a1 σ Q) : MC ad G l yX3_item cX3_item 2 (some .int) 1 21 [.ref (ad o 0 0), .int a1] σ (qI Q) := by
  unfold d3_item at h
  refine x_MC [(0, .ref (ad o 0 0)), (1, .int a1)] (by decide +kernel) rfl (Nat.le_of_ble_eq_true rfl) ?_
  intro E hG hl X
  replace X : FX ad E cX3_item 2 RX3 (some .int) 1 21 := X
  refine r_aload_n X (x_dr DX3_item 0 rfl) 0 rfl rfl ?_
  refine r_iload_n X (x_dr DX3_item 1 rfl) 1 rfl rfl ?_
  refine cl3_hasItem X (k3_hasItem ho h) ho ml_3_31 ⟨Nat.le_of_ble_eq_true rfl, Nat.le_of_ble_eq_true rfl⟩ (Nat.le_of_ble_eq_true rfl) (x_dr DX3_item 2 rfl) (fun v2 s1 zv2 h => ?_)
  refine r_if_eq X 17 (x_dr DX3_item 3 rfl) (by decide) (fun c3 => ?_) (fun c3 => ?_)
  · replace h := h.1 c3
    refine r_iconst (v := 0) X (x_dr DX3_item 9 rfl) (by decide) ?_
    exact r_iret X rfl (x_dr DX3_item 10 rfl) ⟨_, rfl, h⟩
  · replace h := h.2 c3
    refine r_aload_n X (x_dr DX3_item 4 rfl) 0 rfl rfl ?_
    refine gf_3_9 X ho (x_dr DX3_item 5 rfl) ?_
    refine r_iload_n X (x_dr DX3_item 6 rfl) 1 rfl rfl ?_
    obtain ⟨b4, h⟩ := h
    refine r_iald X ho rfl b4 (x_dr DX3_item 7 rfl) ?_
    refine r_goto X 18 (x_dr DX3_item 8 rfl) (by decide) ?_
    exact r_iret X rfl (x_dr DX3_item 10 rfl) ⟨_, rfl, h⟩
set_option maxRecDepth 10000 in
theorem k3_setItem {ad : xAd} {G : xG} {l : Launch} {o : Nat} {a1 : Int32} {a2 : Int32} {σ : xSt} {Q : xSt → Prop} (ho : x_cl o = 3) (h : d3_setItem o a1 a2 σ Q) : MC ad G l yX3_setItem cX3_setItem 3 none 1 21 [.ref (ad o 0 0), .int a1, .int a2] σ (qV Q) := by
  unfold d3_setItem at h
  refine x_MC [(0, .ref (ad o 0 0)), (1, .int a1), (2, .int a2)] (by decide +kernel) rfl (Nat.le_of_ble_eq_true rfl) ?_
  intro E hG hl X
  replace X : FX ad E cX3_setItem 3 RX3 none 1 21 := X
  refine r_aload_n X (x_dr DX3_setItem 0 rfl) 0 rfl rfl ?_
  refine r_iload_n X (x_dr DX3_setItem 1 rfl) 1 rfl rfl ?_
  refine cl3_hasItem X (k3_hasItem ho h) ho ml_3_31 ⟨Nat.le_of_ble_eq_true rfl, Nat.le_of_ble_eq_true rfl⟩ (Nat.le_of_ble_eq_true rfl) (x_dr DX3_setItem 2 rfl) (fun v2 s1 zv2 h => ?_)
  refine r_if_ne X 9 (x_dr DX3_setItem 3 rfl) (by decide) (fun c3 => ?_) (fun c3 => ?_)
  · replace h := h.1 c3
    refine r_aload_n X (x_dr DX3_setItem 5 rfl) 0 rfl rfl ?_
    refine gf_3_15 X ho (x_dr DX3_setItem 6 rfl) ?_
    refine r_if_ne X 27 (x_dr DX3_setItem 7 rfl) (by decide) (fun c4 => ?_) (fun c4 => ?_)
    · replace h := h.1 c4
      refine r_aload_n X (x_dr DX3_setItem 15 rfl) 0 rfl rfl ?_
      refine gf_3_15 X ho (x_dr DX3_setItem 16 rfl) ?_
      refine r_iconst (v := 1) X (x_dr DX3_setItem 17 rfl) (by decide) ?_
      refine r_icmp_ne X 46 (x_dr DX3_setItem 18 rfl) (by decide) (fun c5 => ?_) (fun c5 => ?_)
      · replace h := h.1 c5
        refine r_aload_n X (x_dr DX3_setItem 26 rfl) 0 rfl rfl ?_
        refine gf_3_9 X ho (x_dr DX3_setItem 27 rfl) ?_
        refine r_iload_n X (x_dr DX3_setItem 28 rfl) 1 rfl rfl ?_
        refine r_iload_n X (x_dr DX3_setItem 29 rfl) 2 rfl rfl ?_
        obtain ⟨b6, h⟩ := h
        refine r_iast X ho rfl b6 (x_dr DX3_setItem 30 rfl) ?_
        refine r_nmS (fun s7 es7 => ?_)
        replace h := h s7 es7
        exact r_vret X rfl (x_dr DX3_setItem 31 rfl) ⟨rfl, h⟩
      · replace h := h.2 c5
        refine r_aload_n X (x_dr DX3_setItem 19 rfl) 0 rfl rfl ?_
        refine gf_3_9 X ho (x_dr DX3_setItem 20 rfl) ?_
        refine r_iload_n X (x_dr DX3_setItem 21 rfl) 1 rfl rfl ?_
        refine r_iload_n X (x_dr DX3_setItem 22 rfl) 2 rfl rfl ?_
        refine r_i2s X (x_dr DX3_setItem 23 rfl) ?_
        obtain ⟨b8, h⟩ := h
        refine r_iast X ho rfl b8 (x_dr DX3_setItem 24 rfl) ?_
        refine r_nmS (fun s9 es9 => ?_)
        replace h := h s9 es9
        refine r_goto X 53 (x_dr DX3_setItem 25 rfl) (by decide) ?_
        exact r_vret X rfl (x_dr DX3_setItem 31 rfl) ⟨rfl, h⟩
    · replace h := h.2 c4
      refine r_aload_n X (x_dr DX3_setItem 8 rfl) 0 rfl rfl ?_
      refine gf_3_9 X ho (x_dr DX3_setItem 9 rfl) ?_
      refine r_iload_n X (x_dr DX3_setItem 10 rfl) 1 rfl rfl ?_
      refine r_iload_n X (x_dr DX3_setItem 11 rfl) 2 rfl rfl ?_
      refine r_i2b X (x_dr DX3_setItem 12 rfl) ?_
      obtain ⟨b10, h⟩ := h
      refine r_iast X ho rfl b10 (x_dr DX3_setItem 13 rfl) ?_
      refine r_nmS (fun s11 es11 => ?_)
      replace h := h s11 es11
      refine r_goto X 53 (x_dr DX3_setItem 14 rfl) (by decide) ?_
      exact r_vret X rfl (x_dr DX3_setItem 31 rfl) ⟨rfl, h⟩
  · replace h := h.2 c3
    exact r_vret X rfl (x_dr DX3_setItem 4 rfl) ⟨rfl, h⟩
set_option maxRecDepth 10000 in
theorem k3_takeRun {ad : xAd} {G : xG} {l : Launch} {o o1 : Nat} {a2 : Int32} {a3 : Int32} {a4 : Int32} {σ : xSt} {Q : xSt → Prop} (ho : x_cl o = 3) (ho1 : x_cl o1 = 3) (h : d3_takeRun o o1 a2 a3 a4 σ Q) : MC ad G l yX3_takeRun cX3_takeRun 5 none 1 48 [.ref (ad o 0 0), .ref (ad o1 0 0), .int a2, .int a3, .int a4] σ (qV Q) := by
  unfold d3_takeRun at h
  refine x_MC [(0, .ref (ad o 0 0)), (1, .ref (ad o1 0 0)), (2, .int a2), (3, .int a3), (4, .int a4)] (by decide +kernel) rfl (Nat.le_of_ble_eq_true rfl) ?_
  intro E hG hl X
  replace X : FX ad E cX3_takeRun 5 RX3 none 1 48 := X
  refine r_aload_n X (x_dr DX3_takeRun 0 rfl) 1 rfl rfl ?_
  refine r_ifnull X (x_dr DX3_takeRun 1 rfl) ?_
  refine r_aload_n X (x_dr DX3_takeRun 2 rfl) 1 rfl rfl ?_
  refine r_iload_n X (x_dr DX3_takeRun 3 rfl) 2 rfl rfl ?_
  refine r_iload X (x_dr DX3_takeRun 4 rfl) 4 rfl ?_
  refine cl3_hasRun X (k3_hasRun ho1 h) ho1 ml_3_35 ⟨Nat.le_of_ble_eq_true rfl, Nat.le_of_ble_eq_true rfl⟩ (Nat.le_of_ble_eq_true rfl) (x_dr DX3_takeRun 5 rfl) (fun v2 s1 zv2 h => ?_)
  refine r_if_eq X 39 (x_dr DX3_takeRun 6 rfl) (by decide) (fun c3 => ?_) (fun c3 => ?_)
  · replace h := h.1 c3
    exact r_vret X rfl (x_dr DX3_takeRun 20 rfl) ⟨rfl, h⟩
  · replace h := h.2 c3
    refine r_aload_n X (x_dr DX3_takeRun 7 rfl) 0 rfl rfl ?_
    refine r_iload_n X (x_dr DX3_takeRun 8 rfl) 3 rfl rfl ?_
    refine r_iload X (x_dr DX3_takeRun 9 rfl) 4 rfl ?_
    refine cl3_hasRun X (k3_hasRun ho h) ho ml_3_35 ⟨Nat.le_of_ble_eq_true rfl, Nat.le_of_ble_eq_true rfl⟩ (Nat.le_of_ble_eq_true rfl) (x_dr DX3_takeRun 10 rfl) (fun v5 s4 zv5 h => ?_)
    refine r_if_eq X 39 (x_dr DX3_takeRun 11 rfl) (by decide) (fun c6 => ?_) (fun c6 => ?_)
    · replace h := h.1 c6
      exact r_vret X rfl (x_dr DX3_takeRun 20 rfl) ⟨rfl, h⟩
    · replace h := h.2 c6
      refine r_aload_n X (x_dr DX3_takeRun 12 rfl) 1 rfl rfl ?_
      refine gf_3_9 X ho1 (x_dr DX3_takeRun 13 rfl) ?_
      refine r_iload_n X (x_dr DX3_takeRun 14 rfl) 2 rfl rfl ?_
      refine r_aload_n X (x_dr DX3_takeRun 15 rfl) 0 rfl rfl ?_
      refine gf_3_9 X ho (x_dr DX3_takeRun 16 rfl) ?_
      refine r_iload_n X (x_dr DX3_takeRun 17 rfl) 3 rfl rfl ?_
      refine r_iload X (x_dr DX3_takeRun 18 rfl) 4 rfl ?_
      obtain ⟨b7, h⟩ := h
      refine r_copy X ml_3_39 ho1 ho b7 ⟨Nat.le_of_ble_eq_true rfl, Nat.le_of_ble_eq_true rfl⟩ (x_dr DX3_takeRun 19 rfl) ?_
      refine r_nmS (fun s8 es8 => ?_)
      replace h := h s8 es8
      exact r_vret X rfl (x_dr DX3_takeRun 20 rfl) ⟨rfl, h⟩
set_option maxRecDepth 10000 in
theorem k4_add {ad : xAd} {G : xG} {l : Launch} {a1 : Int32} {a2 : Int32} {a3 : Int32} {σ : xSt} {Q : Int32 → xSt → Prop}  (h : d4_add a1 a2 a3 σ Q) : MC ad G l yX4_add cX4_add 4 (some .boolean) 0 0 [.ref (ad 7 0 0), .int a1, .int a2, .int a3] σ (qZ Q) := by
  unfold d4_add at h
  refine x_MC [(0, .ref (ad 7 0 0)), (1, .int a1), (2, .int a2), (3, .int a3)] (by decide +kernel) rfl (Nat.le_of_ble_eq_true rfl) ?_
  intro E hG hl X
  replace X : FX ad E cX4_add 4 RX4 (some .boolean) 0 0 := X
  refine r_aload_n X (x_dr DX4_add 0 rfl) 0 rfl rfl ?_
  refine gf_4_21 X rfl (x_dr DX4_add 1 rfl) ?_
  refine r_if_lt X 16 (x_dr DX4_add 2 rfl) (by decide) (fun c1 => ?_) (fun c1 => ?_)
  · replace h := h.1 c1
    refine r_iconst (v := 0) X (x_dr DX4_add 7 rfl) (by decide) ?_
    exact r_zret X rfl (x_dr DX4_add 8 rfl) (Or.inl rfl) ⟨_, rfl, (Or.inl rfl), h⟩
  · replace h := h.2 c1
    refine r_aload_n X (x_dr DX4_add 3 rfl) 0 rfl rfl ?_
    refine gf_4_21 X rfl (x_dr DX4_add 4 rfl) ?_
    refine r_bipush (v := 8) X (x_dr DX4_add 5 rfl) (by decide) ?_
    refine r_icmp_lt X 18 (x_dr DX4_add 6 rfl) (by decide) (fun c2 => ?_) (fun c2 => ?_)
    · replace h := h.1 c2
      refine r_aload_n X (x_dr DX4_add 9 rfl) 0 rfl rfl ?_
      refine gf_4_9 X rfl (x_dr DX4_add 10 rfl) ?_
      refine r_aload_n X (x_dr DX4_add 11 rfl) 0 rfl rfl ?_
      refine gf_4_21 X rfl (x_dr DX4_add 12 rfl) ?_
      refine r_iload_n X (x_dr DX4_add 13 rfl) 1 rfl rfl ?_
      obtain ⟨b3, h⟩ := h
      refine r_iast X rfl rfl b3 (x_dr DX4_add 14 rfl) ?_
      refine r_nmS (fun s4 es4 => ?_)
      replace h := h s4 es4
      refine r_aload_n X (x_dr DX4_add 15 rfl) 0 rfl rfl ?_
      refine gf_4_15 X rfl (x_dr DX4_add 16 rfl) ?_
      refine r_aload_n X (x_dr DX4_add 17 rfl) 0 rfl rfl ?_
      refine gf_4_21 X rfl (x_dr DX4_add 18 rfl) ?_
      refine r_iload_n X (x_dr DX4_add 19 rfl) 2 rfl rfl ?_
      obtain ⟨b5, h⟩ := h
      refine r_iast X rfl rfl b5 (x_dr DX4_add 20 rfl) ?_
      refine r_nmS (fun s6 es6 => ?_)
      replace h := h s6 es6
      refine r_aload_n X (x_dr DX4_add 21 rfl) 0 rfl rfl ?_
      refine gf_4_18 X rfl (x_dr DX4_add 22 rfl) ?_
      refine r_aload_n X (x_dr DX4_add 23 rfl) 0 rfl rfl ?_
      refine gf_4_21 X rfl (x_dr DX4_add 24 rfl) ?_
      refine r_iload_n X (x_dr DX4_add 25 rfl) 3 rfl rfl ?_
      obtain ⟨b7, h⟩ := h
      refine r_iast X rfl rfl b7 (x_dr DX4_add 26 rfl) ?_
      refine r_nmS (fun s8 es8 => ?_)
      replace h := h s8 es8
      refine r_aload_n X (x_dr DX4_add 27 rfl) 0 rfl rfl ?_
      refine r_dup X (x_dr DX4_add 28 rfl) rfl ?_
      refine gf_4_21 X rfl (x_dr DX4_add 29 rfl) ?_
      refine r_iconst (v := 1) X (x_dr DX4_add 30 rfl) (by decide) ?_
      refine r_iadd X (x_dr DX4_add 31 rfl) ?_
      refine pf_4_21 X rfl (x_dr DX4_add 32 rfl) ?_
      refine r_nmS (fun s9 es9 => ?_)
      replace h := h s9 es9
      refine r_iconst (v := 1) X (x_dr DX4_add 33 rfl) (by decide) ?_
      exact r_zret X rfl (x_dr DX4_add 34 rfl) (Or.inr rfl) ⟨_, rfl, (Or.inr rfl), h⟩
    · replace h := h.2 c2
      refine r_iconst (v := 0) X (x_dr DX4_add 7 rfl) (by decide) ?_
      exact r_zret X rfl (x_dr DX4_add 8 rfl) (Or.inl rfl) ⟨_, rfl, (Or.inl rfl), h⟩
set_option maxRecDepth 10000 in
theorem w4_comeOutSo_L8 {ad : xAd} {E : xE} (X : FX ad E cX4_comeOutSo 3 RX4 (some .boolean) 2 43) {o1 : Nat} (ho1 : x_cl o1 = 2) {K : xSt → Prop} {Q : Int32 → xSt → Prop} : ∀ (n : Nat) (a2 : Int32) (σ : xSt), d4_comeOutSo_L8 o1 K Q n a2 σ → (∀ (s : xSt), K  s → KK ad E (qZ Q) 56 ([]) [] s) → KK ad E (qZ Q) 8 ([(0, .ref (ad 7 0 0)), (1, .ref (ad o1 0 0)), (2, .int a2)]) [] σ := by
  intro n
  induction n with
  | zero => intro a2 σ h kk; exact h.elim
  | succ n ih =>
    intro a2 σ h kk
    rw [d4_comeOutSo_L8] at h
    refine r_iload_n X (x_dr DX4_comeOutSo 6 rfl) 2 rfl rfl ?_
    refine r_aload_n X (x_dr DX4_comeOutSo 7 rfl) 0 rfl rfl ?_
    refine gf_4_21 X rfl (x_dr DX4_comeOutSo 8 rfl) ?_
    refine r_icmp_ge X 56 (x_dr DX4_comeOutSo 9 rfl) (by decide) (fun c1 => ?_) (fun c1 => ?_)
    · replace h := h.1 c1
      refine r_norm X [] ([]) rfl ?_
      exact kk  _ h
    · replace h := h.2 c1
      refine r_iload_n X (x_dr DX4_comeOutSo 10 rfl) 2 rfl rfl ?_
      refine r_bipush (v := 8) X (x_dr DX4_comeOutSo 11 rfl) (by decide) ?_
      refine r_icmp_ge X 56 (x_dr DX4_comeOutSo 12 rfl) (by decide) (fun c2 => ?_) (fun c2 => ?_)
      · replace h := h.1 c2
        refine r_norm X [] ([]) rfl ?_
        exact kk  _ h
      · replace h := h.2 c2
        refine r_aload_n X (x_dr DX4_comeOutSo 13 rfl) 1 rfl rfl ?_
        refine r_aload_n X (x_dr DX4_comeOutSo 14 rfl) 0 rfl rfl ?_
        refine gf_4_9 X rfl (x_dr DX4_comeOutSo 15 rfl) ?_
        refine r_iload_n X (x_dr DX4_comeOutSo 16 rfl) 2 rfl rfl ?_
        obtain ⟨b3, h⟩ := h
        refine r_iald X rfl rfl b3 (x_dr DX4_comeOutSo 17 rfl) ?_
        refine r_aload_n X (x_dr DX4_comeOutSo 18 rfl) 0 rfl rfl ?_
        refine gf_4_15 X rfl (x_dr DX4_comeOutSo 19 rfl) ?_
        refine r_iload_n X (x_dr DX4_comeOutSo 20 rfl) 2 rfl rfl ?_
        obtain ⟨b4, h⟩ := h
        refine r_iald X rfl rfl b4 (x_dr DX4_comeOutSo 21 rfl) ?_
        refine r_iconst (v := 0) X (x_dr DX4_comeOutSo 22 rfl) (by decide) ?_
        refine cl2_ofMember X (k2_ofMember ho1 h) ho1 ml_4_25 ⟨Nat.le_of_ble_eq_true rfl, Nat.le_of_ble_eq_true rfl⟩ (Nat.le_of_ble_eq_true rfl) (x_dr DX4_comeOutSo 23 rfl) (fun v6 s5 h => ?_)
        refine r_aload_n X (x_dr DX4_comeOutSo 24 rfl) 0 rfl rfl ?_
        refine gf_4_18 X rfl (x_dr DX4_comeOutSo 25 rfl) ?_
        refine r_iload_n X (x_dr DX4_comeOutSo 26 rfl) 2 rfl rfl ?_
        obtain ⟨b7, h⟩ := h
        refine r_iald X rfl rfl b7 (x_dr DX4_comeOutSo 27 rfl) ?_
        refine r_icmp_eq X 50 (x_dr DX4_comeOutSo 28 rfl) (by decide) (fun c8 => ?_) (fun c8 => ?_)
        · replace h := h.1 c8
          obtain ⟨v9, ev9⟩ : ∃ z : Int32, z = a2 + 1 := ⟨_, rfl⟩
          replace h := h v9 ev9
          refine r_iinc (v := v9) X ([(2, .int v9), (0, .ref (ad 7 0 0)), (1, .ref (ad o1 0 0))]) 2 (x_dr DX4_comeOutSo 31 rfl) rfl (by rw [ev9]; rfl) (by decide) rfl ?_
          refine r_goto X 8 (x_dr DX4_comeOutSo 32 rfl) (by decide) ?_
          refine r_norm X [1, 2, 0] ([(0, .ref (ad 7 0 0)), (1, .ref (ad o1 0 0)), (2, .int v9)]) rfl ?_
          exact ih _ _ h kk
        · replace h := h.2 c8
          refine r_iconst (v := 0) X (x_dr DX4_comeOutSo 29 rfl) (by decide) ?_
          exact r_zret X rfl (x_dr DX4_comeOutSo 30 rfl) (Or.inl rfl) ⟨_, rfl, (Or.inl rfl), h⟩
set_option maxRecDepth 10000 in
theorem k4_comeOutSo {ad : xAd} {G : xG} {l : Launch} {o1 : Nat} {σ : xSt} {Q : Int32 → xSt → Prop} (ho1 : x_cl o1 = 2) (h : d4_comeOutSo o1 σ Q) : MC ad G l yX4_comeOutSo cX4_comeOutSo 3 (some .boolean) 2 43 [.ref (ad 7 0 0), .ref (ad o1 0 0)] σ (qZ Q) := by
  unfold d4_comeOutSo at h
  refine x_MC [(0, .ref (ad 7 0 0)), (1, .ref (ad o1 0 0))] (by decide +kernel) rfl (Nat.le_of_ble_eq_true rfl) ?_
  intro E hG hl X
  replace X : FX ad E cX4_comeOutSo 3 RX4 (some .boolean) 2 43 := X
  refine r_aload_n X (x_dr DX4_comeOutSo 0 rfl) 1 rfl rfl ?_
  refine r_ifnonnull X 6 (x_dr DX4_comeOutSo 1 rfl) (by decide) ?_
  refine r_iconst (v := 0) X (x_dr DX4_comeOutSo 4 rfl) (by decide) ?_
  refine r_istore_n X ([(2, .int 0), (0, .ref (ad 7 0 0)), (1, .ref (ad o1 0 0))]) (x_dr DX4_comeOutSo 5 rfl) rfl (by decide) rfl ?_
  refine r_norm X [1, 2, 0] ([(0, .ref (ad 7 0 0)), (1, .ref (ad o1 0 0)), (2, .int 0)]) rfl ?_
  refine w4_comeOutSo_L8 X ho1 _ _ _ h (fun s10 h => ?_)
  refine r_iconst (v := 1) X (x_dr DX4_comeOutSo 33 rfl) (by decide) ?_
  exact r_zret X rfl (x_dr DX4_comeOutSo 34 rfl) (Or.inr rfl) ⟨_, rfl, (Or.inr rfl), h⟩
set_option maxRecDepth 10000 in
theorem k5_size {ad : xAd} {G : xG} {l : Launch} {o : Nat} {σ : xSt} {Q : Int32 → xSt → Prop} (ho : x_cl o = 5) (h : d5_size o σ Q) : MC ad G l yX5_size cX5_size 1 (some .int) 0 0 [.ref (ad o 0 0)] σ (qI Q) := by
  unfold d5_size at h
  refine x_MC [(0, .ref (ad o 0 0))] (by decide +kernel) rfl (Nat.le_of_ble_eq_true rfl) ?_
  intro E hG hl X
  replace X : FX ad E cX5_size 1 RX5 (some .int) 0 0 := X
  refine r_aload_n X (x_dr DX5_size 0 rfl) 0 rfl rfl ?_
  refine gf_5_21 X ho (x_dr DX5_size 1 rfl) ?_
  exact r_iret X rfl (x_dr DX5_size 2 rfl) ⟨_, rfl, h⟩
set_option maxRecDepth 10000 in
theorem k5_append {ad : xAd} {G : xG} {l : Launch} {o : Nat} {a1 : Int32} {σ : xSt} {Q : Int32 → xSt → Prop} (ho : x_cl o = 5) (h : d5_append o a1 σ Q) : MC ad G l yX5_append cX5_append 2 (some .boolean) 0 0 [.ref (ad o 0 0), .int a1] σ (qZ Q) := by
  unfold d5_append at h
  refine x_MC [(0, .ref (ad o 0 0)), (1, .int a1)] (by decide +kernel) rfl (Nat.le_of_ble_eq_true rfl) ?_
  intro E hG hl X
  replace X : FX ad E cX5_append 2 RX5 (some .boolean) 0 0 := X
  refine r_aload_n X (x_dr DX5_append 0 rfl) 0 rfl rfl ?_
  refine gf_5_21 X ho (x_dr DX5_append 1 rfl) ?_
  refine r_if_lt X 19 (x_dr DX5_append 2 rfl) (by decide) (fun c1 => ?_) (fun c1 => ?_)
  · replace h := h.1 c1
    refine r_iconst (v := 0) X (x_dr DX5_append 9 rfl) (by decide) ?_
    exact r_zret X rfl (x_dr DX5_append 10 rfl) (Or.inl rfl) ⟨_, rfl, (Or.inl rfl), h⟩
  · replace h := h.2 c1
    refine r_aload_n X (x_dr DX5_append 3 rfl) 0 rfl rfl ?_
    refine gf_5_21 X ho (x_dr DX5_append 4 rfl) ?_
    refine r_aload_n X (x_dr DX5_append 5 rfl) 0 rfl rfl ?_
    refine gf_5_15 X ho (x_dr DX5_append 6 rfl) ?_
    refine r_alen X ho rfl (v := (if o = 1 then 12 else 31)) (by split <;> rfl) (x_dr DX5_append 7 rfl) ?_
    refine r_icmp_lt X 21 (x_dr DX5_append 8 rfl) (by decide) (fun c2 => ?_) (fun c2 => ?_)
    · replace h := h.1 c2
      refine r_aload_n X (x_dr DX5_append 11 rfl) 0 rfl rfl ?_
      refine gf_5_15 X ho (x_dr DX5_append 12 rfl) ?_
      refine r_aload_n X (x_dr DX5_append 13 rfl) 0 rfl rfl ?_
      refine gf_5_21 X ho (x_dr DX5_append 14 rfl) ?_
      refine r_iload_n X (x_dr DX5_append 15 rfl) 1 rfl rfl ?_
      obtain ⟨b3, h⟩ := h
      refine r_iast X ho rfl b3 (x_dr DX5_append 16 rfl) ?_
      refine r_nmS (fun s4 es4 => ?_)
      replace h := h s4 es4
      refine r_aload_n X (x_dr DX5_append 17 rfl) 0 rfl rfl ?_
      refine r_dup X (x_dr DX5_append 18 rfl) rfl ?_
      refine gf_5_21 X ho (x_dr DX5_append 19 rfl) ?_
      refine r_iconst (v := 1) X (x_dr DX5_append 20 rfl) (by decide) ?_
      refine r_iadd X (x_dr DX5_append 21 rfl) ?_
      refine pf_5_21 X ho (x_dr DX5_append 22 rfl) ?_
      refine r_nmS (fun s5 es5 => ?_)
      replace h := h s5 es5
      refine r_iconst (v := 1) X (x_dr DX5_append 23 rfl) (by decide) ?_
      exact r_zret X rfl (x_dr DX5_append 24 rfl) (Or.inr rfl) ⟨_, rfl, (Or.inr rfl), h⟩
    · replace h := h.2 c2
      refine r_iconst (v := 0) X (x_dr DX5_append 9 rfl) (by decide) ?_
      exact r_zret X rfl (x_dr DX5_append 10 rfl) (Or.inl rfl) ⟨_, rfl, (Or.inl rfl), h⟩
set_option maxRecDepth 10000 in
theorem k5_cutTo {ad : xAd} {G : xG} {l : Launch} {o : Nat} {a1 : Int32} {σ : xSt} {Q : xSt → Prop} (ho : x_cl o = 5) (h : d5_cutTo o a1 σ Q) : MC ad G l yX5_cutTo cX5_cutTo 2 none 1 21 [.ref (ad o 0 0), .int a1] σ (qV Q) := by
  unfold d5_cutTo at h
  refine x_MC [(0, .ref (ad o 0 0)), (1, .int a1)] (by decide +kernel) rfl (Nat.le_of_ble_eq_true rfl) ?_
  intro E hG hl X
  replace X : FX ad E cX5_cutTo 2 RX5 none 1 21 := X
  refine r_aload_n X (x_dr DX5_cutTo 0 rfl) 0 rfl rfl ?_
  refine r_iconst (v := 0) X (x_dr DX5_cutTo 1 rfl) (by decide) ?_
  refine r_iload_n X (x_dr DX5_cutTo 2 rfl) 1 rfl rfl ?_
  refine r_aload_n X (x_dr DX5_cutTo 3 rfl) 0 rfl rfl ?_
  refine gf_5_21 X ho (x_dr DX5_cutTo 4 rfl) ?_
  refine r_mmin X ml_5_25 ⟨Nat.le_of_ble_eq_true rfl, Nat.le_of_ble_eq_true rfl⟩ (x_dr DX5_cutTo 5 rfl) ?_
  refine r_mmax X ml_5_9 ⟨Nat.le_of_ble_eq_true rfl, Nat.le_of_ble_eq_true rfl⟩ (x_dr DX5_cutTo 6 rfl) ?_
  refine pf_5_21 X ho (x_dr DX5_cutTo 7 rfl) ?_
  refine r_nmS (fun s1 es1 => ?_)
  replace h := h s1 es1
  exact r_vret X rfl (x_dr DX5_cutTo 8 rfl) ⟨rfl, h⟩
set_option maxRecDepth 10000 in
theorem k5_byteAt {ad : xAd} {G : xG} {l : Launch} {o : Nat} {a1 : Int32} {σ : xSt} {Q : Int32 → xSt → Prop} (ho : x_cl o = 5) (h : d5_byteAt o a1 σ Q) : MC ad G l yX5_byteAt cX5_byteAt 2 (some .int) 0 0 [.ref (ad o 0 0), .int a1] σ (qI Q) := by
  unfold d5_byteAt at h
  refine x_MC [(0, .ref (ad o 0 0)), (1, .int a1)] (by decide +kernel) rfl (Nat.le_of_ble_eq_true rfl) ?_
  intro E hG hl X
  replace X : FX ad E cX5_byteAt 2 RX5 (some .int) 0 0 := X
  refine r_iload_n X (x_dr DX5_byteAt 0 rfl) 1 rfl rfl ?_
  refine r_if_lt X 30 (x_dr DX5_byteAt 1 rfl) (by decide) (fun c1 => ?_) (fun c1 => ?_)
  · replace h := h.1 c1
    refine r_iconst (v := (-1)) X (x_dr DX5_byteAt 16 rfl) (by decide) ?_
    exact r_iret X rfl (x_dr DX5_byteAt 17 rfl) ⟨_, rfl, h⟩
  · replace h := h.2 c1
    refine r_iload_n X (x_dr DX5_byteAt 2 rfl) 1 rfl rfl ?_
    refine r_aload_n X (x_dr DX5_byteAt 3 rfl) 0 rfl rfl ?_
    refine gf_5_21 X ho (x_dr DX5_byteAt 4 rfl) ?_
    refine r_icmp_ge X 30 (x_dr DX5_byteAt 5 rfl) (by decide) (fun c2 => ?_) (fun c2 => ?_)
    · replace h := h.1 c2
      refine r_iconst (v := (-1)) X (x_dr DX5_byteAt 16 rfl) (by decide) ?_
      exact r_iret X rfl (x_dr DX5_byteAt 17 rfl) ⟨_, rfl, h⟩
    · replace h := h.2 c2
      refine r_iload_n X (x_dr DX5_byteAt 6 rfl) 1 rfl rfl ?_
      refine r_aload_n X (x_dr DX5_byteAt 7 rfl) 0 rfl rfl ?_
      refine gf_5_15 X ho (x_dr DX5_byteAt 8 rfl) ?_
      refine r_alen X ho rfl (v := (if o = 1 then 12 else 31)) (by split <;> rfl) (x_dr DX5_byteAt 9 rfl) ?_
      refine r_icmp_ge X 30 (x_dr DX5_byteAt 10 rfl) (by decide) (fun c3 => ?_) (fun c3 => ?_)
      · replace h := h.1 c3
        refine r_iconst (v := (-1)) X (x_dr DX5_byteAt 16 rfl) (by decide) ?_
        exact r_iret X rfl (x_dr DX5_byteAt 17 rfl) ⟨_, rfl, h⟩
      · replace h := h.2 c3
        refine r_aload_n X (x_dr DX5_byteAt 11 rfl) 0 rfl rfl ?_
        refine gf_5_15 X ho (x_dr DX5_byteAt 12 rfl) ?_
        refine r_iload_n X (x_dr DX5_byteAt 13 rfl) 1 rfl rfl ?_
        obtain ⟨b4, h⟩ := h
        refine r_iald X ho rfl b4 (x_dr DX5_byteAt 14 rfl) ?_
        refine r_goto X 31 (x_dr DX5_byteAt 15 rfl) (by decide) ?_
        exact r_iret X rfl (x_dr DX5_byteAt 17 rfl) ⟨_, rfl, h⟩
set_option maxRecDepth 10000 in
theorem k6_textOf {ad : xAd} {G : xG} {l : Launch} {a1 : Int32} {σ : xSt} {Q : Option Nat → xSt → Prop}  (h : d6_textOf a1 σ Q) : MC ad G l yX6_textOf cX6_textOf 2 (some (.object "WoodliceSenate$Text")) 0 0 [.ref (ad 0 0 0), .int a1] σ (qR ad 5 Q) := by
  unfold d6_textOf at h
  refine x_MC [(0, .ref (ad 0 0 0)), (1, .int a1)] (by decide +kernel) rfl (Nat.le_of_ble_eq_true rfl) ?_
  intro E hG hl X
  replace X : FX ad E cX6_textOf 2 RX6 (some (.object "WoodliceSenate$Text")) 0 0 := X
  refine r_iload_n X (x_dr DX6_textOf 0 rfl) 1 rfl rfl ?_
  refine r_if_ne X 9 (x_dr DX6_textOf 1 rfl) (by decide) (fun c1 => ?_) (fun c1 => ?_)
  · replace h := h.1 c1
    refine r_iload_n X (x_dr DX6_textOf 5 rfl) 1 rfl rfl ?_
    refine r_iconst (v := 1) X (x_dr DX6_textOf 6 rfl) (by decide) ?_
    refine r_icmp_ne X 21 (x_dr DX6_textOf 7 rfl) (by decide) (fun c2 => ?_) (fun c2 => ?_)
    · replace h := h.1 c2
      refine r_null X (x_dr DX6_textOf 11 rfl) ?_
      exact r_aretN X rfl (x_dr DX6_textOf 12 rfl) (Or.inl ⟨rfl, h⟩)
    · replace h := h.2 c2
      refine r_aload_n X (x_dr DX6_textOf 8 rfl) 0 rfl rfl ?_
      refine gf_6_18 X rfl (x_dr DX6_textOf 9 rfl) ?_
      refine r_goto X 22 (x_dr DX6_textOf 10 rfl) (by decide) ?_
      exact r_aret X rfl (x_dr DX6_textOf 12 rfl) (Or.inr ⟨_, rfl, rfl, h⟩)
  · replace h := h.2 c1
    refine r_aload_n X (x_dr DX6_textOf 2 rfl) 0 rfl rfl ?_
    refine gf_6_14 X rfl (x_dr DX6_textOf 3 rfl) ?_
    exact r_aret X rfl (x_dr DX6_textOf 4 rfl) (Or.inr ⟨_, rfl, rfl, h⟩)
set_option maxRecDepth 10000 in
theorem w6_faultOfStone_L2 {ad : xAd} {E : xE} (X : FX ad E cX6_faultOfStone 3 RX6 (some .int) 1 21)   {K : xSt → Prop} {Q : Int32 → xSt → Prop} : ∀ (n : Nat) (a1 : Int32) (σ : xSt), d6_faultOfStone_L2 K Q n a1 σ → (∀ (s : xSt), K  s → KK ad E (qI Q) 42 ([]) [] s) → KK ad E (qI Q) 2 ([(0, .ref (ad 0 0 0)), (1, .int a1)]) [] σ := by
  intro n
  induction n with
  | zero => intro a1 σ h kk; exact h.elim
  | succ n ih =>
    intro a1 σ h kk
    rw [d6_faultOfStone_L2] at h
    refine r_iload_n X (x_dr DX6_faultOfStone 2 rfl) 1 rfl rfl ?_
    refine r_aload_n X (x_dr DX6_faultOfStone 3 rfl) 0 rfl rfl ?_
    refine gf_6_14 X rfl (x_dr DX6_faultOfStone 4 rfl) ?_
    refine cl5_size X (k5_size rfl h) rfl ml_6_89 ⟨Nat.le_of_ble_eq_true rfl, Nat.le_of_ble_eq_true rfl⟩ (Nat.le_of_ble_eq_true rfl) (x_dr DX6_faultOfStone 5 rfl) (fun v2 s1 h => ?_)
    refine r_icmp_ge X 42 (x_dr DX6_faultOfStone 6 rfl) (by decide) (fun c3 => ?_) (fun c3 => ?_)
    · replace h := h.1 c3
      refine r_norm X [] ([]) rfl ?_
      exact kk  _ h
    · replace h := h.2 c3
      refine r_aload_n X (x_dr DX6_faultOfStone 7 rfl) 0 rfl rfl ?_
      refine gf_6_14 X rfl (x_dr DX6_faultOfStone 8 rfl) ?_
      refine r_iload_n X (x_dr DX6_faultOfStone 9 rfl) 1 rfl rfl ?_
      refine cl5_byteAt X (k5_byteAt rfl h) rfl ml_6_328 ⟨Nat.le_of_ble_eq_true rfl, Nat.le_of_ble_eq_true rfl⟩ (Nat.le_of_ble_eq_true rfl) (x_dr DX6_faultOfStone 10 rfl) (fun v5 s4 h => ?_)
      refine r_istore_n X ([(2, .int v5), (0, .ref (ad 0 0 0)), (1, .int a1)]) (x_dr DX6_faultOfStone 11 rfl) rfl (by decide) rfl ?_
      refine r_iload_n X (x_dr DX6_faultOfStone 12 rfl) 0 rfl rfl ?_
      refine r_bipush (v := 48) X (x_dr DX6_faultOfStone 13 rfl) (by decide) ?_
      refine r_icmp_lt X 34 (x_dr DX6_faultOfStone 14 rfl) (by decide) (fun c6 => ?_) (fun c6 => ?_)
      · replace h := h.1 c6
        refine r_iload_n X (x_dr DX6_faultOfStone 18 rfl) 2 rfl rfl ?_
        exact r_iret X rfl (x_dr DX6_faultOfStone 19 rfl) ⟨_, rfl, h⟩
      · replace h := h.2 c6
        refine r_iload_n X (x_dr DX6_faultOfStone 15 rfl) 0 rfl rfl ?_
        refine r_bipush (v := 57) X (x_dr DX6_faultOfStone 16 rfl) (by decide) ?_
        refine r_icmp_le X 36 (x_dr DX6_faultOfStone 17 rfl) (by decide) (fun c7 => ?_) (fun c7 => ?_)
        · replace h := h.1 c7
          obtain ⟨v8, ev8⟩ : ∃ z : Int32, z = a1 + 1 := ⟨_, rfl⟩
          replace h := h v8 ev8
          refine r_iinc (v := v8) X ([(1, .int v8), (2, .int v5), (0, .ref (ad 0 0 0))]) 2 (x_dr DX6_faultOfStone 20 rfl) rfl (by rw [ev8]; rfl) (by decide) rfl ?_
          refine r_goto X 2 (x_dr DX6_faultOfStone 21 rfl) (by decide) ?_
          refine r_norm X [2, 0] ([(0, .ref (ad 0 0 0)), (1, .int v8)]) rfl ?_
          exact ih _ _ h kk
        · replace h := h.2 c7
          refine r_iload_n X (x_dr DX6_faultOfStone 18 rfl) 2 rfl rfl ?_
          exact r_iret X rfl (x_dr DX6_faultOfStone 19 rfl) ⟨_, rfl, h⟩
set_option maxRecDepth 10000 in
theorem k6_faultOfStone {ad : xAd} {G : xG} {l : Launch} {σ : xSt} {Q : Int32 → xSt → Prop}  (h : d6_faultOfStone σ Q) : MC ad G l yX6_faultOfStone cX6_faultOfStone 3 (some .int) 1 21 [.ref (ad 0 0 0)] σ (qI Q) := by
  unfold d6_faultOfStone at h
  refine x_MC [(0, .ref (ad 0 0 0))] (by decide +kernel) rfl (Nat.le_of_ble_eq_true rfl) ?_
  intro E hG hl X
  replace X : FX ad E cX6_faultOfStone 3 RX6 (some .int) 1 21 := X
  refine r_iconst (v := 0) X (x_dr DX6_faultOfStone 0 rfl) (by decide) ?_
  refine r_istore_n X ([(1, .int 0), (0, .ref (ad 0 0 0))]) (x_dr DX6_faultOfStone 1 rfl) rfl (by decide) rfl ?_
  refine r_norm X [1, 0] ([(0, .ref (ad 0 0 0)), (1, .int 0)]) rfl ?_
  refine w6_faultOfStone_L2 X  _ _ _ h (fun s9 h => ?_)
  refine r_iconst (v := (-1)) X (x_dr DX6_faultOfStone 22 rfl) (by decide) ?_
  exact r_iret X rfl (x_dr DX6_faultOfStone 23 rfl) ⟨_, rfl, h⟩
set_option maxRecDepth 10000 in
theorem w6_readStone_L22 {ad : xAd} {E : xE} (X : FX ad E cX6_readStone 3 RX6 none 2 43)   {a1 : Int32} {K : xSt → Prop} {Q : xSt → Prop} : ∀ (n : Nat) (a2 : Int32) (σ : xSt), d6_readStone_L22 a1 K Q n a2 σ → (∀ (s : xSt), K  s → KK ad E (qV Q) 62 ([]) [] s) → KK ad E (qV Q) 22 ([(0, .ref (ad 0 0 0)), (1, .int a1), (2, .int a2)]) [] σ := by
  intro n
  induction n with
  | zero => intro a2 σ h kk; exact h.elim
  | succ n ih =>
    intro a2 σ h kk
    rw [d6_readStone_L22] at h
    refine r_iload_n X (x_dr DX6_readStone 12 rfl) 2 rfl rfl ?_
    refine r_bipush (v := 12) X (x_dr DX6_readStone 13 rfl) (by decide) ?_
    refine r_icmp_ge X 62 (x_dr DX6_readStone 14 rfl) (by decide) (fun c9 => ?_) (fun c9 => ?_)
    · replace h := h.1 c9
      refine r_norm X [] ([]) rfl ?_
      exact kk  _ h
    · replace h := h.2 c9
      refine r_aload_n X (x_dr DX6_readStone 15 rfl) 0 rfl rfl ?_
      refine gf_6_24 X rfl (x_dr DX6_readStone 16 rfl) ?_
      refine r_iload_n X (x_dr DX6_readStone 17 rfl) 2 rfl rfl ?_
      refine r_iload_n X (x_dr DX6_readStone 18 rfl) 2 rfl rfl ?_
      refine r_iload_n X (x_dr DX6_readStone 19 rfl) 1 rfl rfl ?_
      obtain ⟨j15, ej15, h⟩ := x_jn h
      have Jj15 : ∀ (v13 : Int32) (s14 : xSt), j15 v13 s14 → KK ad E (qV Q) 53 ([(0, .ref (ad 0 0 0)), (1, .int a1), (2, .int a2)]) [.int v13, .int a2, .ref (ad 3 0 0)] s14 := by
        intro v13 s14 h
        rw [ej15] at h
        refine cl1_setDamp X (k1_setDamp rfl h) rfl ml_6_337 ⟨Nat.le_of_ble_eq_true rfl, Nat.le_of_ble_eq_true rfl⟩ (Nat.le_of_ble_eq_true rfl) (x_dr DX6_readStone 29 rfl) (fun s16 h => ?_)
        obtain ⟨v17, ev17⟩ : ∃ z : Int32, z = a2 + 1 := ⟨_, rfl⟩
        replace h := h v17 ev17
        refine r_iinc (v := v17) X ([(2, .int v17), (0, .ref (ad 0 0 0)), (1, .int a1)]) 2 (x_dr DX6_readStone 30 rfl) rfl (by rw [ev17]; rfl) (by decide) rfl ?_
        refine r_goto X 22 (x_dr DX6_readStone 31 rfl) (by decide) ?_
        refine r_norm X [1, 2, 0] ([(0, .ref (ad 0 0 0)), (1, .int a1), (2, .int v17)]) rfl ?_
        exact ih _ _ h kk
      refine r_icmp_ge X 52 (x_dr DX6_readStone 20 rfl) (by decide) (fun c18 => ?_) (fun c18 => ?_)
      · replace h := h.1 c18
        refine r_iconst (v := 5) X (x_dr DX6_readStone 28 rfl) (by decide) ?_
        refine r_norm X [0, 1, 2] ([(0, .ref (ad 0 0 0)), (1, .int a1), (2, .int a2)]) rfl ?_
        exact Jj15 _ _ h
      · replace h := h.2 c18
        refine r_aload_n X (x_dr DX6_readStone 21 rfl) 0 rfl rfl ?_
        refine gf_6_14 X rfl (x_dr DX6_readStone 22 rfl) ?_
        refine r_iload_n X (x_dr DX6_readStone 23 rfl) 2 rfl rfl ?_
        refine cl5_byteAt X (k5_byteAt rfl h) rfl ml_6_328 ⟨Nat.le_of_ble_eq_true rfl, Nat.le_of_ble_eq_true rfl⟩ (Nat.le_of_ble_eq_true rfl) (x_dr DX6_readStone 24 rfl) (fun v20 s19 h => ?_)
        refine r_bipush (v := 48) X (x_dr DX6_readStone 25 rfl) (by decide) ?_
        refine r_isub X (x_dr DX6_readStone 26 rfl) ?_
        refine r_goto X 53 (x_dr DX6_readStone 27 rfl) (by decide) ?_
        refine r_norm X [0, 1, 2] ([(0, .ref (ad 0 0 0)), (1, .int a1), (2, .int a2)]) rfl ?_
        exact Jj15 _ _ h
set_option maxRecDepth 10000 in
theorem k6_readStone {ad : xAd} {G : xG} {l : Launch} {σ : xSt} {Q : xSt → Prop}  (h : d6_readStone σ Q) : MC ad G l yX6_readStone cX6_readStone 3 none 2 43 [.ref (ad 0 0 0)] σ (qV Q) := by
  unfold d6_readStone at h
  refine x_MC [(0, .ref (ad 0 0 0))] (by decide +kernel) rfl (Nat.le_of_ble_eq_true rfl) ?_
  intro E hG hl X
  replace X : FX ad E cX6_readStone 3 RX6 none 2 43 := X
  refine r_aload_n X (x_dr DX6_readStone 0 rfl) 0 rfl rfl ?_
  refine cl6_faultOfStone X (k6_faultOfStone h) rfl ml_6_96 ⟨Nat.le_of_ble_eq_true rfl, Nat.le_of_ble_eq_true rfl⟩ (Nat.le_of_ble_eq_true rfl) (x_dr DX6_readStone 1 rfl) (fun v2 s1 h => ?_)
  refine r_iconst (v := (-1)) X (x_dr DX6_readStone 2 rfl) (by decide) ?_
  obtain ⟨j8, ej8, h⟩ := x_jn h
  have Jj8 : ∀ (v6 : Int32) (s7 : xSt), j8 v6 s7 → KK ad E (qV Q) 19 ([(0, .ref (ad 0 0 0))]) [.int v6] s7 := by
    intro v6 s7 h
    rw [ej8] at h
    refine r_istore_n X ([(1, .int v6), (0, .ref (ad 0 0 0))]) (x_dr DX6_readStone 9 rfl) rfl (by decide) rfl ?_
    refine r_iconst (v := 0) X (x_dr DX6_readStone 10 rfl) (by decide) ?_
    refine r_istore_n X ([(2, .int 0), (1, .int v6), (0, .ref (ad 0 0 0))]) (x_dr DX6_readStone 11 rfl) rfl (by decide) rfl ?_
    refine r_norm X [2, 1, 0] ([(0, .ref (ad 0 0 0)), (1, .int v6), (2, .int 0)]) rfl ?_
    refine w6_readStone_L22 X  _ _ _ h (fun s21 h => ?_)
    exact r_vret X rfl (x_dr DX6_readStone 32 rfl) ⟨rfl, h⟩
  refine r_icmp_ne X 18 (x_dr DX6_readStone 3 rfl) (by decide) (fun c22 => ?_) (fun c22 => ?_)
  · replace h := h.1 c22
    refine r_iconst (v := 0) X (x_dr DX6_readStone 8 rfl) (by decide) ?_
    refine r_norm X [0] ([(0, .ref (ad 0 0 0))]) rfl ?_
    exact Jj8 _ _ h
  · replace h := h.2 c22
    refine r_aload_n X (x_dr DX6_readStone 4 rfl) 0 rfl rfl ?_
    refine gf_6_14 X rfl (x_dr DX6_readStone 5 rfl) ?_
    refine cl5_size X (k5_size rfl h) rfl ml_6_89 ⟨Nat.le_of_ble_eq_true rfl, Nat.le_of_ble_eq_true rfl⟩ (Nat.le_of_ble_eq_true rfl) (x_dr DX6_readStone 6 rfl) (fun v24 s23 h => ?_)
    refine r_goto X 19 (x_dr DX6_readStone 7 rfl) (by decide) ?_
    refine r_norm X [0] ([(0, .ref (ad 0 0 0))]) rfl ?_
    exact Jj8 _ _ h
set_option maxRecDepth 10000 in
theorem k6_canStand {ad : xAd} {G : xG} {l : Launch} {a0 : Int32} {a1 : Int32} {σ : xSt} {Q : Int32 → xSt → Prop}  (h : d6_canStand a0 a1 σ Q) : MC ad G l yX6_canStand cX6_canStand 2 (some .boolean) 0 0 [.int a0, .int a1] σ (qZ Q) := by
  unfold d6_canStand at h
  refine x_MC [(0, .int a0), (1, .int a1)] (by decide +kernel) rfl (Nat.le_of_ble_eq_true rfl) ?_
  intro E hG hl X
  replace X : FX ad E cX6_canStand 2 RX6 (some .boolean) 0 0 := X
  refine r_iload_n X (x_dr DX6_canStand 0 rfl) 1 rfl rfl ?_
  refine r_if_ne X 28 (x_dr DX6_canStand 1 rfl) (by decide) (fun c1 => ?_) (fun c1 => ?_)
  · replace h := h.1 c1
    refine r_iload_n X (x_dr DX6_canStand 15 rfl) 1 rfl rfl ?_
    refine r_iconst (v := 1) X (x_dr DX6_canStand 16 rfl) (by decide) ?_
    refine r_icmp_ne X 51 (x_dr DX6_canStand 17 rfl) (by decide) (fun c2 => ?_) (fun c2 => ?_)
    · replace h := h.1 c2
      refine r_iload_n X (x_dr DX6_canStand 28 rfl) 1 rfl rfl ?_
      refine r_iconst (v := 2) X (x_dr DX6_canStand 29 rfl) (by decide) ?_
      refine r_icmp_ne X 76 (x_dr DX6_canStand 30 rfl) (by decide) (fun c3 => ?_) (fun c3 => ?_)
      · replace h := h.1 c3
        refine r_iload_n X (x_dr DX6_canStand 41 rfl) 0 rfl rfl ?_
        refine r_bipush (v := 59) X (x_dr DX6_canStand 42 rfl) (by decide) ?_
        refine r_icmp_ne X 86 (x_dr DX6_canStand 43 rfl) (by decide) (fun c4 => ?_) (fun c4 => ?_)
        · replace h := h.1 c4
          refine r_iconst (v := 0) X (x_dr DX6_canStand 46 rfl) (by decide) ?_
          exact r_zret X rfl (x_dr DX6_canStand 47 rfl) (Or.inl rfl) ⟨_, rfl, (Or.inl rfl), h⟩
        · replace h := h.2 c4
          refine r_iconst (v := 1) X (x_dr DX6_canStand 44 rfl) (by decide) ?_
          refine r_goto X 87 (x_dr DX6_canStand 45 rfl) (by decide) ?_
          exact r_zret X rfl (x_dr DX6_canStand 47 rfl) (Or.inr rfl) ⟨_, rfl, (Or.inr rfl), h⟩
      · replace h := h.2 c3
        refine r_iload_n X (x_dr DX6_canStand 31 rfl) 0 rfl rfl ?_
        refine r_bipush (v := 117) X (x_dr DX6_canStand 32 rfl) (by decide) ?_
        refine r_icmp_eq X 68 (x_dr DX6_canStand 33 rfl) (by decide) (fun c5 => ?_) (fun c5 => ?_)
        · replace h := h.1 c5
          refine r_iconst (v := 1) X (x_dr DX6_canStand 37 rfl) (by decide) ?_
          refine r_goto X 87 (x_dr DX6_canStand 38 rfl) (by decide) ?_
          exact r_zret X rfl (x_dr DX6_canStand 47 rfl) (Or.inr rfl) ⟨_, rfl, (Or.inr rfl), h⟩
        · replace h := h.2 c5
          refine r_iload_n X (x_dr DX6_canStand 34 rfl) 0 rfl rfl ?_
          refine r_bipush (v := 100) X (x_dr DX6_canStand 35 rfl) (by decide) ?_
          refine r_icmp_ne X 72 (x_dr DX6_canStand 36 rfl) (by decide) (fun c6 => ?_) (fun c6 => ?_)
          · replace h := h.1 c6
            refine r_iconst (v := 0) X (x_dr DX6_canStand 39 rfl) (by decide) ?_
            refine r_goto X 87 (x_dr DX6_canStand 40 rfl) (by decide) ?_
            exact r_zret X rfl (x_dr DX6_canStand 47 rfl) (Or.inl rfl) ⟨_, rfl, (Or.inl rfl), h⟩
          · replace h := h.2 c6
            refine r_iconst (v := 1) X (x_dr DX6_canStand 37 rfl) (by decide) ?_
            refine r_goto X 87 (x_dr DX6_canStand 38 rfl) (by decide) ?_
            exact r_zret X rfl (x_dr DX6_canStand 47 rfl) (Or.inr rfl) ⟨_, rfl, (Or.inr rfl), h⟩
    · replace h := h.2 c2
      refine r_iload_n X (x_dr DX6_canStand 18 rfl) 0 rfl rfl ?_
      refine r_bipush (v := 97) X (x_dr DX6_canStand 19 rfl) (by decide) ?_
      refine r_icmp_lt X 49 (x_dr DX6_canStand 20 rfl) (by decide) (fun c7 => ?_) (fun c7 => ?_)
      · replace h := h.1 c7
        refine r_iconst (v := 0) X (x_dr DX6_canStand 26 rfl) (by decide) ?_
        exact r_zret X rfl (x_dr DX6_canStand 27 rfl) (Or.inl rfl) ⟨_, rfl, (Or.inl rfl), h⟩
      · replace h := h.2 c7
        refine r_iload_n X (x_dr DX6_canStand 21 rfl) 0 rfl rfl ?_
        refine r_bipush (v := 108) X (x_dr DX6_canStand 22 rfl) (by decide) ?_
        refine r_icmp_gt X 49 (x_dr DX6_canStand 23 rfl) (by decide) (fun c8 => ?_) (fun c8 => ?_)
        · replace h := h.1 c8
          refine r_iconst (v := 0) X (x_dr DX6_canStand 26 rfl) (by decide) ?_
          exact r_zret X rfl (x_dr DX6_canStand 27 rfl) (Or.inl rfl) ⟨_, rfl, (Or.inl rfl), h⟩
        · replace h := h.2 c8
          refine r_iconst (v := 1) X (x_dr DX6_canStand 24 rfl) (by decide) ?_
          refine r_goto X 50 (x_dr DX6_canStand 25 rfl) (by decide) ?_
          exact r_zret X rfl (x_dr DX6_canStand 27 rfl) (Or.inr rfl) ⟨_, rfl, (Or.inr rfl), h⟩
  · replace h := h.2 c1
    refine r_iload_n X (x_dr DX6_canStand 2 rfl) 0 rfl rfl ?_
    refine r_bipush (v := 112) X (x_dr DX6_canStand 3 rfl) (by decide) ?_
    refine r_icmp_eq X 22 (x_dr DX6_canStand 4 rfl) (by decide) (fun c9 => ?_) (fun c9 => ?_)
    · replace h := h.1 c9
      refine r_iconst (v := 1) X (x_dr DX6_canStand 11 rfl) (by decide) ?_
      refine r_goto X 27 (x_dr DX6_canStand 12 rfl) (by decide) ?_
      exact r_zret X rfl (x_dr DX6_canStand 14 rfl) (Or.inr rfl) ⟨_, rfl, (Or.inr rfl), h⟩
    · replace h := h.2 c9
      refine r_iload_n X (x_dr DX6_canStand 5 rfl) 0 rfl rfl ?_
      refine r_bipush (v := 103) X (x_dr DX6_canStand 6 rfl) (by decide) ?_
      refine r_icmp_eq X 22 (x_dr DX6_canStand 7 rfl) (by decide) (fun c10 => ?_) (fun c10 => ?_)
      · replace h := h.1 c10
        refine r_iconst (v := 1) X (x_dr DX6_canStand 11 rfl) (by decide) ?_
        refine r_goto X 27 (x_dr DX6_canStand 12 rfl) (by decide) ?_
        exact r_zret X rfl (x_dr DX6_canStand 14 rfl) (Or.inr rfl) ⟨_, rfl, (Or.inr rfl), h⟩
      · replace h := h.2 c10
        refine r_iload_n X (x_dr DX6_canStand 8 rfl) 0 rfl rfl ?_
        refine r_bipush (v := 111) X (x_dr DX6_canStand 9 rfl) (by decide) ?_
        refine r_icmp_ne X 26 (x_dr DX6_canStand 10 rfl) (by decide) (fun c11 => ?_) (fun c11 => ?_)
        · replace h := h.1 c11
          refine r_iconst (v := 0) X (x_dr DX6_canStand 13 rfl) (by decide) ?_
          exact r_zret X rfl (x_dr DX6_canStand 14 rfl) (Or.inl rfl) ⟨_, rfl, (Or.inl rfl), h⟩
        · replace h := h.2 c11
          refine r_iconst (v := 1) X (x_dr DX6_canStand 11 rfl) (by decide) ?_
          refine r_goto X 27 (x_dr DX6_canStand 12 rfl) (by decide) ?_
          exact r_zret X rfl (x_dr DX6_canStand 14 rfl) (Or.inr rfl) ⟨_, rfl, (Or.inr rfl), h⟩
set_option maxRecDepth 10000 in
theorem w6_faultOfMembers_L10 {ad : xAd} {E : xE} (X : FX ad E cX6_faultOfMembers 3 RX6 (some .int) 1 21)   {a1 : Int32} {K : xSt → Prop} {Q : Int32 → xSt → Prop} : ∀ (n : Nat) (a2 : Int32) (σ : xSt), d6_faultOfMembers_L10 a1 K Q n a2 σ → (∀ (s : xSt), K  s → KK ad E (qI Q) 40 ([(1, .int a1)]) [] s) → KK ad E (qI Q) 10 ([(0, .ref (ad 0 0 0)), (1, .int a1), (2, .int a2)]) [] σ := by
  intro n
  induction n with
  | zero => intro a2 σ h kk; exact h.elim
  | succ n ih =>
    intro a2 σ h kk
    rw [d6_faultOfMembers_L10] at h
    refine r_iload_n X (x_dr DX6_faultOfMembers 6 rfl) 2 rfl rfl ?_
    refine r_iload_n X (x_dr DX6_faultOfMembers 7 rfl) 1 rfl rfl ?_
    refine r_icmp_ge X 40 (x_dr DX6_faultOfMembers 8 rfl) (by decide) (fun c3 => ?_) (fun c3 => ?_)
    · replace h := h.1 c3
      refine r_norm X [1] ([(1, .int a1)]) rfl ?_
      exact kk  _ h
    · replace h := h.2 c3
      refine r_aload_n X (x_dr DX6_faultOfMembers 9 rfl) 0 rfl rfl ?_
      refine gf_6_18 X rfl (x_dr DX6_faultOfMembers 10 rfl) ?_
      refine r_iload_n X (x_dr DX6_faultOfMembers 11 rfl) 2 rfl rfl ?_
      refine cl5_byteAt X (k5_byteAt rfl h) rfl ml_6_328 ⟨Nat.le_of_ble_eq_true rfl, Nat.le_of_ble_eq_true rfl⟩ (Nat.le_of_ble_eq_true rfl) (x_dr DX6_faultOfMembers 12 rfl) (fun v5 s4 h => ?_)
      refine r_iload_n X (x_dr DX6_faultOfMembers 13 rfl) 2 rfl rfl ?_
      refine r_iconst (v := 4) X (x_dr DX6_faultOfMembers 14 rfl) (by decide) ?_
      obtain ⟨b6, h⟩ := h
      refine r_irem X (x_dr DX6_faultOfMembers 15 rfl) b6 ?_
      refine cl6_canStand X (k6_canStand h) ml_6_331 ⟨Nat.le_of_ble_eq_true rfl, Nat.le_of_ble_eq_true rfl⟩ (Nat.le_of_ble_eq_true rfl) (x_dr DX6_faultOfMembers 16 rfl) (fun v8 s7 zv8 h => ?_)
      refine r_if_ne X 34 (x_dr DX6_faultOfMembers 17 rfl) (by decide) (fun c9 => ?_) (fun c9 => ?_)
      · replace h := h.1 c9
        obtain ⟨v10, ev10⟩ : ∃ z : Int32, z = a2 + 1 := ⟨_, rfl⟩
        replace h := h v10 ev10
        refine r_iinc (v := v10) X ([(2, .int v10), (0, .ref (ad 0 0 0)), (1, .int a1)]) 2 (x_dr DX6_faultOfMembers 20 rfl) rfl (by rw [ev10]; rfl) (by decide) rfl ?_
        refine r_goto X 10 (x_dr DX6_faultOfMembers 21 rfl) (by decide) ?_
        refine r_norm X [1, 2, 0] ([(0, .ref (ad 0 0 0)), (1, .int a1), (2, .int v10)]) rfl ?_
        exact ih _ _ h kk
      · replace h := h.2 c9
        refine r_iload_n X (x_dr DX6_faultOfMembers 18 rfl) 2 rfl rfl ?_
        exact r_iret X rfl (x_dr DX6_faultOfMembers 19 rfl) ⟨_, rfl, h⟩
set_option maxRecDepth 10000 in
theorem k6_faultOfMembers {ad : xAd} {G : xG} {l : Launch} {σ : xSt} {Q : Int32 → xSt → Prop}  (h : d6_faultOfMembers σ Q) : MC ad G l yX6_faultOfMembers cX6_faultOfMembers 3 (some .int) 1 21 [.ref (ad 0 0 0)] σ (qI Q) := by
  unfold d6_faultOfMembers at h
  refine x_MC [(0, .ref (ad 0 0 0))] (by decide +kernel) rfl (Nat.le_of_ble_eq_true rfl) ?_
  intro E hG hl X
  replace X : FX ad E cX6_faultOfMembers 3 RX6 (some .int) 1 21 := X
  refine r_aload_n X (x_dr DX6_faultOfMembers 0 rfl) 0 rfl rfl ?_
  refine gf_6_18 X rfl (x_dr DX6_faultOfMembers 1 rfl) ?_
  refine cl5_size X (k5_size rfl h) rfl ml_6_89 ⟨Nat.le_of_ble_eq_true rfl, Nat.le_of_ble_eq_true rfl⟩ (Nat.le_of_ble_eq_true rfl) (x_dr DX6_faultOfMembers 2 rfl) (fun v2 s1 h => ?_)
  refine r_istore_n X ([(1, .int v2), (0, .ref (ad 0 0 0))]) (x_dr DX6_faultOfMembers 3 rfl) rfl (by decide) rfl ?_
  refine r_iconst (v := 0) X (x_dr DX6_faultOfMembers 4 rfl) (by decide) ?_
  refine r_istore_n X ([(2, .int 0), (1, .int v2), (0, .ref (ad 0 0 0))]) (x_dr DX6_faultOfMembers 5 rfl) rfl (by decide) rfl ?_
  refine r_norm X [2, 1, 0] ([(0, .ref (ad 0 0 0)), (1, .int v2), (2, .int 0)]) rfl ?_
  refine w6_faultOfMembers_L10 X  _ _ _ h (fun s11 h => ?_)
  refine r_iload_n X (x_dr DX6_faultOfMembers 22 rfl) 0 rfl rfl ?_
  refine r_if_eq X 51 (x_dr DX6_faultOfMembers 23 rfl) (by decide) (fun c12 => ?_) (fun c12 => ?_)
  · replace h := h.1 c12
    refine r_iconst (v := (-1)) X (x_dr DX6_faultOfMembers 29 rfl) (by decide) ?_
    refine r_goto X 56 (x_dr DX6_faultOfMembers 30 rfl) (by decide) ?_
    exact r_iret X rfl (x_dr DX6_faultOfMembers 32 rfl) ⟨_, rfl, h⟩
  · replace h := h.2 c12
    refine r_iload_n X (x_dr DX6_faultOfMembers 24 rfl) 0 rfl rfl ?_
    refine r_iconst (v := 4) X (x_dr DX6_faultOfMembers 25 rfl) (by decide) ?_
    obtain ⟨b13, h⟩ := h
    refine r_irem X (x_dr DX6_faultOfMembers 26 rfl) b13 ?_
    refine r_iconst (v := 3) X (x_dr DX6_faultOfMembers 27 rfl) (by decide) ?_
    refine r_icmp_ne X 55 (x_dr DX6_faultOfMembers 28 rfl) (by decide) (fun c14 => ?_) (fun c14 => ?_)
    · replace h := h.1 c14
      refine r_iload_n X (x_dr DX6_faultOfMembers 31 rfl) 0 rfl rfl ?_
      exact r_iret X rfl (x_dr DX6_faultOfMembers 32 rfl) ⟨_, rfl, h⟩
    · replace h := h.2 c14
      refine r_iconst (v := (-1)) X (x_dr DX6_faultOfMembers 29 rfl) (by decide) ?_
      refine r_goto X 56 (x_dr DX6_faultOfMembers 30 rfl) (by decide) ?_
      exact r_iret X rfl (x_dr DX6_faultOfMembers 32 rfl) ⟨_, rfl, h⟩
set_option maxRecDepth 10000 in
theorem k6_sortNamed {ad : xAd} {G : xG} {l : Launch} {a0 : Int32} {σ : xSt} {Q : Int32 → xSt → Prop}  (h : d6_sortNamed a0 σ Q) : MC ad G l yX6_sortNamed cX6_sortNamed 1 (some .int) 0 0 [.int a0] σ (qI Q) := by
  unfold d6_sortNamed at h
  refine x_MC [(0, .int a0)] (by decide +kernel) rfl (Nat.le_of_ble_eq_true rfl) ?_
  intro E hG hl X
  replace X : FX ad E cX6_sortNamed 1 RX6 (some .int) 0 0 := X
  refine r_iload_n X (x_dr DX6_sortNamed 0 rfl) 0 rfl rfl ?_
  refine r_bipush (v := 112) X (x_dr DX6_sortNamed 1 rfl) (by decide) ?_
  refine r_icmp_ne X 8 (x_dr DX6_sortNamed 2 rfl) (by decide) (fun c1 => ?_) (fun c1 => ?_)
  · replace h := h.1 c1
    refine r_iload_n X (x_dr DX6_sortNamed 5 rfl) 0 rfl rfl ?_
    refine r_bipush (v := 103) X (x_dr DX6_sortNamed 6 rfl) (by decide) ?_
    refine r_icmp_ne X 18 (x_dr DX6_sortNamed 7 rfl) (by decide) (fun c2 => ?_) (fun c2 => ?_)
    · replace h := h.1 c2
      refine r_iconst (v := 2) X (x_dr DX6_sortNamed 10 rfl) (by decide) ?_
      exact r_iret X rfl (x_dr DX6_sortNamed 11 rfl) ⟨_, rfl, h⟩
    · replace h := h.2 c2
      refine r_iconst (v := 1) X (x_dr DX6_sortNamed 8 rfl) (by decide) ?_
      refine r_goto X 19 (x_dr DX6_sortNamed 9 rfl) (by decide) ?_
      exact r_iret X rfl (x_dr DX6_sortNamed 11 rfl) ⟨_, rfl, h⟩
  · replace h := h.2 c1
    refine r_iconst (v := 0) X (x_dr DX6_sortNamed 3 rfl) (by decide) ?_
    exact r_iret X rfl (x_dr DX6_sortNamed 4 rfl) ⟨_, rfl, h⟩
set_option maxRecDepth 10000 in
theorem w6_readMembers_L18 {ad : xAd} {E : xE} (X : FX ad E cX6_readMembers 4 RX6 none 2 43)   {K : xSt → Prop} {Q : xSt → Prop} : ∀ (n : Nat) (a1 : Int32) (σ : xSt), d6_readMembers_L18 K Q n a1 σ → (∀ (s : xSt), K  s → KK ad E (qV Q) 92 ([]) [] s) → KK ad E (qV Q) 18 ([(0, .ref (ad 0 0 0)), (1, .int a1)]) [] σ := by
  intro n
  induction n with
  | zero => intro a1 σ h kk; exact h.elim
  | succ n ih =>
    intro a1 σ h kk
    rw [d6_readMembers_L18] at h
    refine r_iload_n X (x_dr DX6_readMembers 10 rfl) 1 rfl rfl ?_
    refine r_iconst (v := 2) X (x_dr DX6_readMembers 11 rfl) (by decide) ?_
    refine r_iadd X (x_dr DX6_readMembers 12 rfl) ?_
    refine r_aload_n X (x_dr DX6_readMembers 13 rfl) 0 rfl rfl ?_
    refine gf_6_18 X rfl (x_dr DX6_readMembers 14 rfl) ?_
    refine cl5_size X (k5_size rfl h) rfl ml_6_89 ⟨Nat.le_of_ble_eq_true rfl, Nat.le_of_ble_eq_true rfl⟩ (Nat.le_of_ble_eq_true rfl) (x_dr DX6_readMembers 15 rfl) (fun v6 s5 h => ?_)
    refine r_icmp_ge X 92 (x_dr DX6_readMembers 16 rfl) (by decide) (fun c7 => ?_) (fun c7 => ?_)
    · replace h := h.1 c7
      refine r_norm X [] ([]) rfl ?_
      exact kk  _ h
    · replace h := h.2 c7
      refine r_aload_n X (x_dr DX6_readMembers 17 rfl) 0 rfl rfl ?_
      refine gf_6_18 X rfl (x_dr DX6_readMembers 18 rfl) ?_
      refine r_iload_n X (x_dr DX6_readMembers 19 rfl) 1 rfl rfl ?_
      refine r_iconst (v := 1) X (x_dr DX6_readMembers 20 rfl) (by decide) ?_
      refine r_iadd X (x_dr DX6_readMembers 21 rfl) ?_
      refine cl5_byteAt X (k5_byteAt rfl h) rfl ml_6_328 ⟨Nat.le_of_ble_eq_true rfl, Nat.le_of_ble_eq_true rfl⟩ (Nat.le_of_ble_eq_true rfl) (x_dr DX6_readMembers 22 rfl) (fun v9 s8 h => ?_)
      refine r_bipush (v := 97) X (x_dr DX6_readMembers 23 rfl) (by decide) ?_
      refine r_isub X (x_dr DX6_readMembers 24 rfl) ?_
      refine r_nmI (fun v10 ev10 => ?_)
      replace h := h v10 ev10
      refine r_istore_n X ([(2, .int v10), (0, .ref (ad 0 0 0)), (1, .int a1)]) (x_dr DX6_readMembers 25 rfl) rfl (by decide) rfl ?_
      refine r_aload_n X (x_dr DX6_readMembers 26 rfl) 1 rfl rfl ?_
      refine gf_6_18 X rfl (x_dr DX6_readMembers 27 rfl) ?_
      refine r_iload_n X (x_dr DX6_readMembers 28 rfl) 2 rfl rfl ?_
      refine r_iconst (v := 2) X (x_dr DX6_readMembers 29 rfl) (by decide) ?_
      refine r_iadd X (x_dr DX6_readMembers 30 rfl) ?_
      refine cl5_byteAt X (k5_byteAt rfl h) rfl ml_6_328 ⟨Nat.le_of_ble_eq_true rfl, Nat.le_of_ble_eq_true rfl⟩ (Nat.le_of_ble_eq_true rfl) (x_dr DX6_readMembers 31 rfl) (fun v12 s11 h => ?_)
      refine r_bipush (v := 117) X (x_dr DX6_readMembers 32 rfl) (by decide) ?_
      obtain ⟨j15, ej15, h⟩ := x_jn h
      have Jj15 : ∀ (v14 : Int32), j15 v14 → KK ad E (qV Q) 65 ([(0, .ref (ad 0 0 0)), (1, .int a1), (2, .int v10)]) [.int v14] s11 := by
        intro v14 h
        rw [ej15] at h
        refine r_istore_n X ([(3, .int v14), (0, .ref (ad 0 0 0)), (1, .int a1), (2, .int v10)]) (x_dr DX6_readMembers 37 rfl) rfl (by decide) rfl ?_
        refine r_aload_n X (x_dr DX6_readMembers 38 rfl) 1 rfl rfl ?_
        refine gf_6_24 X rfl (x_dr DX6_readMembers 39 rfl) ?_
        refine r_aload_n X (x_dr DX6_readMembers 40 rfl) 1 rfl rfl ?_
        refine gf_6_18 X rfl (x_dr DX6_readMembers 41 rfl) ?_
        refine r_iload_n X (x_dr DX6_readMembers 42 rfl) 2 rfl rfl ?_
        refine cl5_byteAt X (k5_byteAt rfl h) rfl ml_6_328 ⟨Nat.le_of_ble_eq_true rfl, Nat.le_of_ble_eq_true rfl⟩ (Nat.le_of_ble_eq_true rfl) (x_dr DX6_readMembers 43 rfl) (fun v17 s16 h => ?_)
        refine cl6_sortNamed X (k6_sortNamed h) ml_6_343 ⟨Nat.le_of_ble_eq_true rfl, Nat.le_of_ble_eq_true rfl⟩ (Nat.le_of_ble_eq_true rfl) (x_dr DX6_readMembers 44 rfl) (fun v19 s18 h => ?_)
        refine r_iload_n X (x_dr DX6_readMembers 45 rfl) 3 rfl rfl ?_
        refine r_iload_n X (x_dr DX6_readMembers 46 rfl) 0 rfl rfl ?_
        refine cl1_addMember X (k1_addMember rfl h) rfl ml_6_346 ⟨Nat.le_of_ble_eq_true rfl, Nat.le_of_ble_eq_true rfl⟩ (Nat.le_of_ble_eq_true rfl) (x_dr DX6_readMembers 47 rfl) (fun s20 h => ?_)
        obtain ⟨v21, ev21⟩ : ∃ z : Int32, z = a1 + 4 := ⟨_, rfl⟩
        replace h := h v21 ev21
        refine r_iinc (v := v21) X ([(1, .int v21), (3, .int v14), (0, .ref (ad 0 0 0)), (2, .int v10)]) 2 (x_dr DX6_readMembers 48 rfl) rfl (by rw [ev21]; rfl) (by decide) rfl ?_
        refine r_goto X 18 (x_dr DX6_readMembers 49 rfl) (by decide) ?_
        refine r_norm X [2, 0] ([(0, .ref (ad 0 0 0)), (1, .int v21)]) rfl ?_
        exact ih _ _ h kk
      refine r_icmp_ne X 64 (x_dr DX6_readMembers 33 rfl) (by decide) (fun c22 => ?_) (fun c22 => ?_)
      · replace h := h.1 c22
        refine r_iconst (v := 0) X (x_dr DX6_readMembers 36 rfl) (by decide) ?_
        refine r_norm X [1, 2, 0] ([(0, .ref (ad 0 0 0)), (1, .int a1), (2, .int v10)]) rfl ?_
        exact Jj15 _ h
      · replace h := h.2 c22
        refine r_iconst (v := 1) X (x_dr DX6_readMembers 34 rfl) (by decide) ?_
        refine r_goto X 65 (x_dr DX6_readMembers 35 rfl) (by decide) ?_
        refine r_norm X [1, 2, 0] ([(0, .ref (ad 0 0 0)), (1, .int a1), (2, .int v10)]) rfl ?_
        exact Jj15 _ h
