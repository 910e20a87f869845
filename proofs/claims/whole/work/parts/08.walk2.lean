set_option maxRecDepth 10000 in
theorem k6_readMembers {ad : xAd} {G : xG} {l : Launch} {σ : xSt} {Q : xSt → Prop}  (h : d6_readMembers σ Q) : MC ad G l yX6_readMembers cX6_readMembers 4 none 2 43 [.ref (ad 0 0 0)] σ (qV Q) := by
  unfold d6_readMembers at h
  refine x_MC [(0, .ref (ad 0 0 0))] (by decide +kernel) rfl (Nat.le_of_ble_eq_true rfl) ?_
  intro E hG hl X
  replace X : FX ad E cX6_readMembers 4 RX6 none 2 43 := X
  refine r_aload_n X (x_dr DX6_readMembers 0 rfl) 0 rfl rfl ?_
  refine gf_6_24 X rfl (x_dr DX6_readMembers 1 rfl) ?_
  refine cl1_dropMembers X (k1_dropMembers rfl h) rfl ml_6_340 ⟨Nat.le_of_ble_eq_true rfl, Nat.le_of_ble_eq_true rfl⟩ (Nat.le_of_ble_eq_true rfl) (x_dr DX6_readMembers 2 rfl) (fun s1 h => ?_)
  refine r_aload_n X (x_dr DX6_readMembers 3 rfl) 0 rfl rfl ?_
  refine cl6_faultOfMembers X (k6_faultOfMembers h) rfl ml_6_99 ⟨Nat.le_of_ble_eq_true rfl, Nat.le_of_ble_eq_true rfl⟩ (Nat.le_of_ble_eq_true rfl) (x_dr DX6_readMembers 4 rfl) (fun v3 s2 h => ?_)
  refine r_iconst (v := (-1)) X (x_dr DX6_readMembers 5 rfl) (by decide) ?_
  refine r_icmp_eq X 16 (x_dr DX6_readMembers 6 rfl) (by decide) (fun c4 => ?_) (fun c4 => ?_)
  · replace h := h.1 c4
    refine r_iconst (v := 0) X (x_dr DX6_readMembers 8 rfl) (by decide) ?_
    refine r_istore_n X ([(1, .int 0), (0, .ref (ad 0 0 0))]) (x_dr DX6_readMembers 9 rfl) rfl (by decide) rfl ?_
    refine r_norm X [1, 0] ([(0, .ref (ad 0 0 0)), (1, .int 0)]) rfl ?_
    refine w6_readMembers_L18 X  _ _ _ h (fun s23 h => ?_)
    exact r_vret X rfl (x_dr DX6_readMembers 50 rfl) ⟨rfl, h⟩
  · replace h := h.2 c4
    exact r_vret X rfl (x_dr DX6_readMembers 7 rfl) ⟨rfl, h⟩
set_option maxRecDepth 10000 in
theorem k6_readTexts {ad : xAd} {G : xG} {l : Launch} {σ : xSt} {Q : xSt → Prop}  (h : d6_readTexts σ Q) : MC ad G l yX6_readTexts cX6_readTexts 1 none 3 66 [.ref (ad 0 0 0)] σ (qV Q) := by
  unfold d6_readTexts at h
  refine x_MC [(0, .ref (ad 0 0 0))] (by decide +kernel) rfl (Nat.le_of_ble_eq_true rfl) ?_
  intro E hG hl X
  replace X : FX ad E cX6_readTexts 1 RX6 none 3 66 := X
  refine r_aload_n X (x_dr DX6_readTexts 0 rfl) 0 rfl rfl ?_
  refine cl6_readStone X (k6_readStone h) rfl ml_6_75 ⟨Nat.le_of_ble_eq_true rfl, Nat.le_of_ble_eq_true rfl⟩ (Nat.le_of_ble_eq_true rfl) (x_dr DX6_readTexts 1 rfl) (fun s1 h => ?_)
  refine r_aload_n X (x_dr DX6_readTexts 2 rfl) 0 rfl rfl ?_
  refine cl6_readMembers X (k6_readMembers h) rfl ml_6_334 ⟨Nat.le_of_ble_eq_true rfl, Nat.le_of_ble_eq_true rfl⟩ (Nat.le_of_ble_eq_true rfl) (x_dr DX6_readTexts 3 rfl) (fun s2 h => ?_)
  refine r_aload_n X (x_dr DX6_readTexts 4 rfl) 0 rfl rfl ?_
  refine r_iconst (v := 1) X (x_dr DX6_readTexts 5 rfl) (by decide) ?_
  refine pf_6_70 X rfl (Or.inr rfl) (x_dr DX6_readTexts 6 rfl) ?_
  refine r_nmS (fun s3 es3 => ?_)
  replace h := h s3 es3
  exact r_vret X rfl (x_dr DX6_readTexts 7 rfl) ⟨rfl, h⟩
set_option maxRecDepth 10000 in
theorem k6_type {ad : xAd} {G : xG} {l : Launch} {a1 : Int32} {a2 : Int32} {σ : xSt} {Q : Int32 → xSt → Prop}  (h : d6_type a1 a2 σ Q) : MC ad G l yX6_type cX6_type 4 (some .int) 4 86 [.ref (ad 0 0 0), .int a1, .int a2] σ (qI Q) := by
  unfold d6_type at h
  refine x_MC [(0, .ref (ad 0 0 0)), (1, .int a1), (2, .int a2)] (by decide +kernel) rfl (Nat.le_of_ble_eq_true rfl) ?_
  intro E hG hl X
  replace X : FX ad E cX6_type 4 RX6 (some .int) 4 86 := X
  refine r_aload_n X (x_dr DX6_type 0 rfl) 0 rfl rfl ?_
  refine r_iload_n X (x_dr DX6_type 1 rfl) 1 rfl rfl ?_
  refine cl6_textOf X (k6_textOf h) rfl ml_6_78 ⟨Nat.le_of_ble_eq_true rfl, Nat.le_of_ble_eq_true rfl⟩ (Nat.le_of_ble_eq_true rfl) (x_dr DX6_type 2 rfl) (fun s1 h => ?_) (fun s1 ob3 hob3 h => ?_)
  · replace h := h.1 rfl
    refine r_astore_nN X ([(3, .null), (0, .ref (ad 0 0 0)), (1, .int a1), (2, .int a2)]) (x_dr DX6_type 3 rfl) rfl (by decide) rfl ?_
    refine r_aload_nN X (x_dr DX6_type 4 rfl) 0 rfl rfl ?_
    refine r_ifnullN X 21 (x_dr DX6_type 5 rfl) (by decide) ?_
    refine r_bipush (v := (-2)) X (x_dr DX6_type 11 rfl) (by decide) ?_
    exact r_iret X rfl (x_dr DX6_type 12 rfl) ⟨_, rfl, h⟩
  · replace h := h.2 ob3 rfl hob3
    refine r_astore_n X ([(3, .ref (ad ob3 0 0)), (0, .ref (ad 0 0 0)), (1, .int a1), (2, .int a2)]) (x_dr DX6_type 3 rfl) rfl (by decide) rfl ?_
    refine r_aload_n X (x_dr DX6_type 4 rfl) 0 rfl rfl ?_
    refine r_ifnull X (x_dr DX6_type 5 rfl) ?_
    refine r_iload_n X (x_dr DX6_type 6 rfl) 3 rfl rfl ?_
    refine r_if_lt X 21 (x_dr DX6_type 7 rfl) (by decide) (fun c4 => ?_) (fun c4 => ?_)
    · replace h := h.1 c4
      refine r_bipush (v := (-2)) X (x_dr DX6_type 11 rfl) (by decide) ?_
      exact r_iret X rfl (x_dr DX6_type 12 rfl) ⟨_, rfl, h⟩
    · replace h := h.2 c4
      refine r_iload_n X (x_dr DX6_type 8 rfl) 3 rfl rfl ?_
      refine r_sipush (v := 255) X (x_dr DX6_type 9 rfl) (by decide) ?_
      refine r_icmp_le X 24 (x_dr DX6_type 10 rfl) (by decide) (fun c5 => ?_) (fun c5 => ?_)
      · replace h := h.1 c5
        refine r_aload_n X (x_dr DX6_type 13 rfl) 0 rfl rfl ?_
        refine r_iload_n X (x_dr DX6_type 14 rfl) 3 rfl rfl ?_
        refine cl5_append X (k5_append hob3 h) hob3 ml_6_82 ⟨Nat.le_of_ble_eq_true rfl, Nat.le_of_ble_eq_true rfl⟩ (Nat.le_of_ble_eq_true rfl) (x_dr DX6_type 15 rfl) (fun v7 s6 zv7 h => ?_)
        refine r_if_ne X 35 (x_dr DX6_type 16 rfl) (by decide) (fun c8 => ?_) (fun c8 => ?_)
        · replace h := h.1 c8
          refine r_aload_n X (x_dr DX6_type 19 rfl) 1 rfl rfl ?_
          refine cl6_readTexts X (k6_readTexts h) rfl ml_6_86 ⟨Nat.le_of_ble_eq_true rfl, Nat.le_of_ble_eq_true rfl⟩ (Nat.le_of_ble_eq_true rfl) (x_dr DX6_type 20 rfl) (fun s9 h => ?_)
          refine r_aload_n X (x_dr DX6_type 21 rfl) 0 rfl rfl ?_
          refine cl5_size X (k5_size hob3 h) hob3 ml_6_89 ⟨Nat.le_of_ble_eq_true rfl, Nat.le_of_ble_eq_true rfl⟩ (Nat.le_of_ble_eq_true rfl) (x_dr DX6_type 22 rfl) (fun v11 s10 h => ?_)
          exact r_iret X rfl (x_dr DX6_type 23 rfl) ⟨_, rfl, h⟩
        · replace h := h.2 c8
          refine r_bipush (v := (-4)) X (x_dr DX6_type 17 rfl) (by decide) ?_
          exact r_iret X rfl (x_dr DX6_type 18 rfl) ⟨_, rfl, h⟩
      · replace h := h.2 c5
        refine r_bipush (v := (-2)) X (x_dr DX6_type 11 rfl) (by decide) ?_
        exact r_iret X rfl (x_dr DX6_type 12 rfl) ⟨_, rfl, h⟩
set_option maxRecDepth 10000 in
theorem k6_wipe {ad : xAd} {G : xG} {l : Launch} {a1 : Int32} {σ : xSt} {Q : Int32 → xSt → Prop}  (h : d6_wipe a1 σ Q) : MC ad G l yX6_wipe cX6_wipe 4 (some .int) 4 86 [.ref (ad 0 0 0), .int a1] σ (qI Q) := by
  unfold d6_wipe at h
  refine x_MC [(0, .ref (ad 0 0 0)), (1, .int a1)] (by decide +kernel) rfl (Nat.le_of_ble_eq_true rfl) ?_
  intro E hG hl X
  replace X : FX ad E cX6_wipe 4 RX6 (some .int) 4 86 := X
  refine r_aload_n X (x_dr DX6_wipe 0 rfl) 0 rfl rfl ?_
  refine r_iload_n X (x_dr DX6_wipe 1 rfl) 1 rfl rfl ?_
  refine cl6_textOf X (k6_textOf h) rfl ml_6_78 ⟨Nat.le_of_ble_eq_true rfl, Nat.le_of_ble_eq_true rfl⟩ (Nat.le_of_ble_eq_true rfl) (x_dr DX6_wipe 2 rfl) (fun s1 h => ?_) (fun s1 ob3 hob3 h => ?_)
  · replace h := h.1 rfl
    refine r_astore_nN X ([(2, .null), (0, .ref (ad 0 0 0)), (1, .int a1)]) (x_dr DX6_wipe 3 rfl) rfl (by decide) rfl ?_
    refine r_aload_nN X (x_dr DX6_wipe 4 rfl) 0 rfl rfl ?_
    refine r_ifnonnullN X (x_dr DX6_wipe 5 rfl) ?_
    refine r_bipush (v := (-2)) X (x_dr DX6_wipe 6 rfl) (by decide) ?_
    exact r_iret X rfl (x_dr DX6_wipe 7 rfl) ⟨_, rfl, h⟩
  · replace h := h.2 ob3 rfl hob3
    refine r_astore_n X ([(2, .ref (ad ob3 0 0)), (0, .ref (ad 0 0 0)), (1, .int a1)]) (x_dr DX6_wipe 3 rfl) rfl (by decide) rfl ?_
    refine r_aload_n X (x_dr DX6_wipe 4 rfl) 0 rfl rfl ?_
    refine r_ifnonnull X 13 (x_dr DX6_wipe 5 rfl) (by decide) ?_
    refine r_aload_n X (x_dr DX6_wipe 8 rfl) 0 rfl rfl ?_
    refine cl5_size X (k5_size hob3 h) hob3 ml_6_89 ⟨Nat.le_of_ble_eq_true rfl, Nat.le_of_ble_eq_true rfl⟩ (Nat.le_of_ble_eq_true rfl) (x_dr DX6_wipe 9 rfl) (fun v5 s4 h => ?_)
    refine r_istore_n X ([(3, .int v5), (2, .ref (ad ob3 0 0)), (0, .ref (ad 0 0 0)), (1, .int a1)]) (x_dr DX6_wipe 10 rfl) rfl (by decide) rfl ?_
    refine r_aload_n X (x_dr DX6_wipe 11 rfl) 1 rfl rfl ?_
    refine r_iconst (v := 0) X (x_dr DX6_wipe 12 rfl) (by decide) ?_
    refine cl5_cutTo X (k5_cutTo hob3 h) hob3 ml_6_93 ⟨Nat.le_of_ble_eq_true rfl, Nat.le_of_ble_eq_true rfl⟩ (Nat.le_of_ble_eq_true rfl) (x_dr DX6_wipe 13 rfl) (fun s6 h => ?_)
    refine r_aload_n X (x_dr DX6_wipe 14 rfl) 2 rfl rfl ?_
    refine cl6_readTexts X (k6_readTexts h) rfl ml_6_86 ⟨Nat.le_of_ble_eq_true rfl, Nat.le_of_ble_eq_true rfl⟩ (Nat.le_of_ble_eq_true rfl) (x_dr DX6_wipe 15 rfl) (fun s7 h => ?_)
    refine r_iload_n X (x_dr DX6_wipe 16 rfl) 0 rfl rfl ?_
    exact r_iret X rfl (x_dr DX6_wipe 17 rfl) ⟨_, rfl, h⟩
set_option maxRecDepth 10000 in
theorem k6_undo {ad : xAd} {G : xG} {l : Launch} {a1 : Int32} {σ : xSt} {Q : Int32 → xSt → Prop}  (h : d6_undo a1 σ Q) : MC ad G l yX6_undo cX6_undo 3 (some .int) 4 86 [.ref (ad 0 0 0), .int a1] σ (qI Q) := by
  unfold d6_undo at h
  refine x_MC [(0, .ref (ad 0 0 0)), (1, .int a1)] (by decide +kernel) rfl (Nat.le_of_ble_eq_true rfl) ?_
  intro E hG hl X
  replace X : FX ad E cX6_undo 3 RX6 (some .int) 4 86 := X
  refine r_aload_n X (x_dr DX6_undo 0 rfl) 0 rfl rfl ?_
  refine r_iload_n X (x_dr DX6_undo 1 rfl) 1 rfl rfl ?_
  refine cl6_textOf X (k6_textOf h) rfl ml_6_78 ⟨Nat.le_of_ble_eq_true rfl, Nat.le_of_ble_eq_true rfl⟩ (Nat.le_of_ble_eq_true rfl) (x_dr DX6_undo 2 rfl) (fun s1 h => ?_) (fun s1 ob3 hob3 h => ?_)
  · replace h := h.1 rfl
    refine r_astore_nN X ([(2, .null), (0, .ref (ad 0 0 0)), (1, .int a1)]) (x_dr DX6_undo 3 rfl) rfl (by decide) rfl ?_
    refine r_aload_nN X (x_dr DX6_undo 4 rfl) 0 rfl rfl ?_
    refine r_ifnonnullN X (x_dr DX6_undo 5 rfl) ?_
    refine r_bipush (v := (-2)) X (x_dr DX6_undo 6 rfl) (by decide) ?_
    exact r_iret X rfl (x_dr DX6_undo 7 rfl) ⟨_, rfl, h⟩
  · replace h := h.2 ob3 rfl hob3
    refine r_astore_n X ([(2, .ref (ad ob3 0 0)), (0, .ref (ad 0 0 0)), (1, .int a1)]) (x_dr DX6_undo 3 rfl) rfl (by decide) rfl ?_
    refine r_aload_n X (x_dr DX6_undo 4 rfl) 0 rfl rfl ?_
    refine r_ifnonnull X 13 (x_dr DX6_undo 5 rfl) (by decide) ?_
    refine r_aload_n X (x_dr DX6_undo 8 rfl) 0 rfl rfl ?_
    refine cl5_size X (k5_size hob3 h) hob3 ml_6_89 ⟨Nat.le_of_ble_eq_true rfl, Nat.le_of_ble_eq_true rfl⟩ (Nat.le_of_ble_eq_true rfl) (x_dr DX6_undo 9 rfl) (fun v5 s4 h => ?_)
    refine r_if_ne X 23 (x_dr DX6_undo 10 rfl) (by decide) (fun c6 => ?_) (fun c6 => ?_)
    · replace h := h.1 c6
      refine r_aload_n X (x_dr DX6_undo 13 rfl) 0 rfl rfl ?_
      refine r_aload_n X (x_dr DX6_undo 14 rfl) 0 rfl rfl ?_
      refine cl5_size X (k5_size hob3 h) hob3 ml_6_89 ⟨Nat.le_of_ble_eq_true rfl, Nat.le_of_ble_eq_true rfl⟩ (Nat.le_of_ble_eq_true rfl) (x_dr DX6_undo 15 rfl) (fun v8 s7 h => ?_)
      refine r_iconst (v := 1) X (x_dr DX6_undo 16 rfl) (by decide) ?_
      refine r_isub X (x_dr DX6_undo 17 rfl) ?_
      refine cl5_cutTo X (k5_cutTo hob3 h) hob3 ml_6_93 ⟨Nat.le_of_ble_eq_true rfl, Nat.le_of_ble_eq_true rfl⟩ (Nat.le_of_ble_eq_true rfl) (x_dr DX6_undo 18 rfl) (fun s9 h => ?_)
      refine r_aload_n X (x_dr DX6_undo 19 rfl) 1 rfl rfl ?_
      refine cl6_readTexts X (k6_readTexts h) rfl ml_6_86 ⟨Nat.le_of_ble_eq_true rfl, Nat.le_of_ble_eq_true rfl⟩ (Nat.le_of_ble_eq_true rfl) (x_dr DX6_undo 20 rfl) (fun s10 h => ?_)
      refine r_aload_n X (x_dr DX6_undo 21 rfl) 0 rfl rfl ?_
      refine cl5_size X (k5_size hob3 h) hob3 ml_6_89 ⟨Nat.le_of_ble_eq_true rfl, Nat.le_of_ble_eq_true rfl⟩ (Nat.le_of_ble_eq_true rfl) (x_dr DX6_undo 22 rfl) (fun v12 s11 h => ?_)
      exact r_iret X rfl (x_dr DX6_undo 23 rfl) ⟨_, rfl, h⟩
    · replace h := h.2 c6
      refine r_bipush (v := (-3)) X (x_dr DX6_undo 11 rfl) (by decide) ?_
      exact r_iret X rfl (x_dr DX6_undo 12 rfl) ⟨_, rfl, h⟩
set_option maxRecDepth 10000 in
theorem k6_fault {ad : xAd} {G : xG} {l : Launch} {a1 : Int32} {σ : xSt} {Q : Int32 → xSt → Prop}  (h : d6_fault a1 σ Q) : MC ad G l yX6_fault cX6_fault 2 (some .int) 2 43 [.ref (ad 0 0 0), .int a1] σ (qI Q) := by
  unfold d6_fault at h
  refine x_MC [(0, .ref (ad 0 0 0)), (1, .int a1)] (by decide +kernel) rfl (Nat.le_of_ble_eq_true rfl) ?_
  intro E hG hl X
  replace X : FX ad E cX6_fault 2 RX6 (some .int) 2 43 := X
  refine r_iload_n X (x_dr DX6_fault 0 rfl) 1 rfl rfl ?_
  refine r_if_ne X 9 (x_dr DX6_fault 1 rfl) (by decide) (fun c1 => ?_) (fun c1 => ?_)
  · replace h := h.1 c1
    refine r_iload_n X (x_dr DX6_fault 5 rfl) 1 rfl rfl ?_
    refine r_iconst (v := 1) X (x_dr DX6_fault 6 rfl) (by decide) ?_
    refine r_icmp_ne X 21 (x_dr DX6_fault 7 rfl) (by decide) (fun c2 => ?_) (fun c2 => ?_)
    · replace h := h.1 c2
      refine r_bipush (v := (-2)) X (x_dr DX6_fault 11 rfl) (by decide) ?_
      exact r_iret X rfl (x_dr DX6_fault 12 rfl) ⟨_, rfl, h⟩
    · replace h := h.2 c2
      refine r_aload_n X (x_dr DX6_fault 8 rfl) 0 rfl rfl ?_
      refine cl6_faultOfMembers X (k6_faultOfMembers h) rfl ml_6_99 ⟨Nat.le_of_ble_eq_true rfl, Nat.le_of_ble_eq_true rfl⟩ (Nat.le_of_ble_eq_true rfl) (x_dr DX6_fault 9 rfl) (fun v4 s3 h => ?_)
      refine r_goto X 23 (x_dr DX6_fault 10 rfl) (by decide) ?_
      exact r_iret X rfl (x_dr DX6_fault 12 rfl) ⟨_, rfl, h⟩
  · replace h := h.2 c1
    refine r_aload_n X (x_dr DX6_fault 2 rfl) 0 rfl rfl ?_
    refine cl6_faultOfStone X (k6_faultOfStone h) rfl ml_6_96 ⟨Nat.le_of_ble_eq_true rfl, Nat.le_of_ble_eq_true rfl⟩ (Nat.le_of_ble_eq_true rfl) (x_dr DX6_fault 3 rfl) (fun v6 s5 h => ?_)
    exact r_iret X rfl (x_dr DX6_fault 4 rfl) ⟨_, rfl, h⟩
set_option maxRecDepth 10000 in
theorem k6_stone {ad : xAd} {G : xG} {l : Launch} {a1 : Int32} {σ : xSt} {Q : Int32 → xSt → Prop}  (h : d6_stone a1 σ Q) : MC ad G l yX6_stone cX6_stone 2 (some .int) 2 41 [.ref (ad 0 0 0), .int a1] σ (qI Q) := by
  unfold d6_stone at h
  refine x_MC [(0, .ref (ad 0 0 0)), (1, .int a1)] (by decide +kernel) rfl (Nat.le_of_ble_eq_true rfl) ?_
  intro E hG hl X
  replace X : FX ad E cX6_stone 2 RX6 (some .int) 2 41 := X
  refine r_iload_n X (x_dr DX6_stone 0 rfl) 1 rfl rfl ?_
  refine cl6_isPlace X (k6_isPlace h) ml_6_102 ⟨Nat.le_of_ble_eq_true rfl, Nat.le_of_ble_eq_true rfl⟩ (Nat.le_of_ble_eq_true rfl) (x_dr DX6_stone 1 rfl) (fun v2 s1 zv2 h => ?_)
  refine r_if_eq X 18 (x_dr DX6_stone 2 rfl) (by decide) (fun c3 => ?_) (fun c3 => ?_)
  · replace h := h.1 c3
    refine r_bipush (v := (-2)) X (x_dr DX6_stone 8 rfl) (by decide) ?_
    exact r_iret X rfl (x_dr DX6_stone 9 rfl) ⟨_, rfl, h⟩
  · replace h := h.2 c3
    refine r_aload_n X (x_dr DX6_stone 3 rfl) 0 rfl rfl ?_
    refine gf_6_24 X rfl (x_dr DX6_stone 4 rfl) ?_
    refine r_iload_n X (x_dr DX6_stone 5 rfl) 1 rfl rfl ?_
    refine cl1_dampAt X (k1_dampAt rfl h) rfl ml_6_105 ⟨Nat.le_of_ble_eq_true rfl, Nat.le_of_ble_eq_true rfl⟩ (Nat.le_of_ble_eq_true rfl) (x_dr DX6_stone 6 rfl) (fun v5 s4 h => ?_)
    refine r_goto X 20 (x_dr DX6_stone 7 rfl) (by decide) ?_
    exact r_iret X rfl (x_dr DX6_stone 9 rfl) ⟨_, rfl, h⟩
set_option maxRecDepth 10000 in
theorem k6_member {ad : xAd} {G : xG} {l : Launch} {a1 : Int32} {a2 : Int32} {σ : xSt} {Q : Int32 → xSt → Prop}  (h : d6_member a1 a2 σ Q) : MC ad G l yX6_member cX6_member 3 (some .int) 2 42 [.ref (ad 0 0 0), .int a1, .int a2] σ (qI Q) := by
  unfold d6_member at h
  refine x_MC [(0, .ref (ad 0 0 0)), (1, .int a1), (2, .int a2)] (by decide +kernel) rfl (Nat.le_of_ble_eq_true rfl) ?_
  intro E hG hl X
  replace X : FX ad E cX6_member 3 RX6 (some .int) 2 42 := X
  refine r_aload_n X (x_dr DX6_member 0 rfl) 0 rfl rfl ?_
  refine gf_6_24 X rfl (x_dr DX6_member 1 rfl) ?_
  refine r_iload_n X (x_dr DX6_member 2 rfl) 1 rfl rfl ?_
  refine cl1_hasMember X (k1_hasMember rfl h) rfl ml_6_109 ⟨Nat.le_of_ble_eq_true rfl, Nat.le_of_ble_eq_true rfl⟩ (Nat.le_of_ble_eq_true rfl) (x_dr DX6_member 3 rfl) (fun v2 s1 zv2 h => ?_)
  refine r_if_eq X 20 (x_dr DX6_member 4 rfl) (by decide) (fun c3 => ?_) (fun c3 => ?_)
  · replace h := h.1 c3
    refine r_bipush (v := (-2)) X (x_dr DX6_member 10 rfl) (by decide) ?_
    exact r_iret X rfl (x_dr DX6_member 11 rfl) ⟨_, rfl, h⟩
  · replace h := h.2 c3
    refine r_iload_n X (x_dr DX6_member 5 rfl) 2 rfl rfl ?_
    refine r_if_lt X 20 (x_dr DX6_member 6 rfl) (by decide) (fun c4 => ?_) (fun c4 => ?_)
    · replace h := h.1 c4
      refine r_bipush (v := (-2)) X (x_dr DX6_member 10 rfl) (by decide) ?_
      exact r_iret X rfl (x_dr DX6_member 11 rfl) ⟨_, rfl, h⟩
    · replace h := h.2 c4
      refine r_iload_n X (x_dr DX6_member 7 rfl) 2 rfl rfl ?_
      refine r_iconst (v := 2) X (x_dr DX6_member 8 rfl) (by decide) ?_
      refine r_icmp_le X 23 (x_dr DX6_member 9 rfl) (by decide) (fun c5 => ?_) (fun c5 => ?_)
      · replace h := h.1 c5
        refine r_iload_n X (x_dr DX6_member 12 rfl) 2 rfl rfl ?_
        refine r_if_ne X 36 (x_dr DX6_member 13 rfl) (by decide) (fun c6 => ?_) (fun c6 => ?_)
        · replace h := h.1 c6
          refine r_iload_n X (x_dr DX6_member 19 rfl) 2 rfl rfl ?_
          refine r_iconst (v := 1) X (x_dr DX6_member 20 rfl) (by decide) ?_
          refine r_icmp_ne X 52 (x_dr DX6_member 21 rfl) (by decide) (fun c7 => ?_) (fun c7 => ?_)
          · replace h := h.1 c7
            refine r_aload_n X (x_dr DX6_member 27 rfl) 0 rfl rfl ?_
            refine gf_6_24 X rfl (x_dr DX6_member 28 rfl) ?_
            refine r_iload_n X (x_dr DX6_member 29 rfl) 1 rfl rfl ?_
            refine cl1_uprightOf X (k1_uprightOf rfl h) rfl ml_6_118 ⟨Nat.le_of_ble_eq_true rfl, Nat.le_of_ble_eq_true rfl⟩ (Nat.le_of_ble_eq_true rfl) (x_dr DX6_member 30 rfl) (fun v9 s8 h => ?_)
            exact r_iret X rfl (x_dr DX6_member 31 rfl) ⟨_, rfl, h⟩
          · replace h := h.2 c7
            refine r_aload_n X (x_dr DX6_member 22 rfl) 0 rfl rfl ?_
            refine gf_6_24 X rfl (x_dr DX6_member 23 rfl) ?_
            refine r_iload_n X (x_dr DX6_member 24 rfl) 1 rfl rfl ?_
            refine cl1_placeOf X (k1_placeOf rfl h) rfl ml_6_115 ⟨Nat.le_of_ble_eq_true rfl, Nat.le_of_ble_eq_true rfl⟩ (Nat.le_of_ble_eq_true rfl) (x_dr DX6_member 25 rfl) (fun v11 s10 h => ?_)
            refine r_goto X 60 (x_dr DX6_member 26 rfl) (by decide) ?_
            exact r_iret X rfl (x_dr DX6_member 31 rfl) ⟨_, rfl, h⟩
        · replace h := h.2 c6
          refine r_aload_n X (x_dr DX6_member 14 rfl) 0 rfl rfl ?_
          refine gf_6_24 X rfl (x_dr DX6_member 15 rfl) ?_
          refine r_iload_n X (x_dr DX6_member 16 rfl) 1 rfl rfl ?_
          refine cl1_sortOf X (k1_sortOf rfl h) rfl ml_6_112 ⟨Nat.le_of_ble_eq_true rfl, Nat.le_of_ble_eq_true rfl⟩ (Nat.le_of_ble_eq_true rfl) (x_dr DX6_member 17 rfl) (fun v13 s12 h => ?_)
          exact r_iret X rfl (x_dr DX6_member 18 rfl) ⟨_, rfl, h⟩
      · replace h := h.2 c5
        refine r_bipush (v := (-2)) X (x_dr DX6_member 10 rfl) (by decide) ?_
        exact r_iret X rfl (x_dr DX6_member 11 rfl) ⟨_, rfl, h⟩
set_option maxRecDepth 10000 in
theorem k6_event {ad : xAd} {G : xG} {l : Launch} {a1 : Int32} {a2 : Int32} {a3 : Int32} {σ : xSt} {Q : Int32 → xSt → Prop}  (h : d6_event a1 a2 a3 σ Q) : MC ad G l yX6_event cX6_event 4 (some .int) 1 23 [.ref (ad 0 0 0), .int a1, .int a2, .int a3] σ (qI Q) := by
  unfold d6_event at h
  refine x_MC [(0, .ref (ad 0 0 0)), (1, .int a1), (2, .int a2), (3, .int a3)] (by decide +kernel) rfl (Nat.le_of_ble_eq_true rfl) ?_
  intro E hG hl X
  replace X : FX ad E cX6_event 4 RX6 (some .int) 1 23 := X
  refine r_iload_n X (x_dr DX6_event 0 rfl) 1 rfl rfl ?_
  refine r_if_lt X 23 (x_dr DX6_event 1 rfl) (by decide) (fun c1 => ?_) (fun c1 => ?_)
  · replace h := h.1 c1
    refine r_bipush (v := (-2)) X (x_dr DX6_event 11 rfl) (by decide) ?_
    exact r_iret X rfl (x_dr DX6_event 12 rfl) ⟨_, rfl, h⟩
  · replace h := h.2 c1
    refine r_iload_n X (x_dr DX6_event 2 rfl) 1 rfl rfl ?_
    refine r_iconst (v := 4) X (x_dr DX6_event 3 rfl) (by decide) ?_
    refine r_icmp_ge X 23 (x_dr DX6_event 4 rfl) (by decide) (fun c2 => ?_) (fun c2 => ?_)
    · replace h := h.1 c2
      refine r_bipush (v := (-2)) X (x_dr DX6_event 11 rfl) (by decide) ?_
      exact r_iret X rfl (x_dr DX6_event 12 rfl) ⟨_, rfl, h⟩
    · replace h := h.2 c2
      refine r_iload_n X (x_dr DX6_event 5 rfl) 2 rfl rfl ?_
      refine cl6_isHour X (k6_isHour h) ml_6_121 ⟨Nat.le_of_ble_eq_true rfl, Nat.le_of_ble_eq_true rfl⟩ (Nat.le_of_ble_eq_true rfl) (x_dr DX6_event 6 rfl) (fun v4 s3 zv4 h => ?_)
      refine r_if_eq X 23 (x_dr DX6_event 7 rfl) (by decide) (fun c5 => ?_) (fun c5 => ?_)
      · replace h := h.1 c5
        refine r_bipush (v := (-2)) X (x_dr DX6_event 11 rfl) (by decide) ?_
        exact r_iret X rfl (x_dr DX6_event 12 rfl) ⟨_, rfl, h⟩
      · replace h := h.2 c5
        refine r_iload_n X (x_dr DX6_event 8 rfl) 3 rfl rfl ?_
        refine cl6_isPlace X (k6_isPlace h) ml_6_102 ⟨Nat.le_of_ble_eq_true rfl, Nat.le_of_ble_eq_true rfl⟩ (Nat.le_of_ble_eq_true rfl) (x_dr DX6_event 9 rfl) (fun v7 s6 zv7 h => ?_)
        refine r_if_ne X 26 (x_dr DX6_event 10 rfl) (by decide) (fun c8 => ?_) (fun c8 => ?_)
        · replace h := h.1 c8
          refine r_aload_n X (x_dr DX6_event 13 rfl) 0 rfl rfl ?_
          refine gf_6_24 X rfl (x_dr DX6_event 14 rfl) ?_
          refine gf_6_124 X rfl (x_dr DX6_event 15 rfl) ?_
          refine r_bipush (v := 8) X (x_dr DX6_event 16 rfl) (by decide) ?_
          refine r_icmp_lt X 41 (x_dr DX6_event 17 rfl) (by decide) (fun c9 => ?_) (fun c9 => ?_)
          · replace h := h.1 c9
            refine r_aload_n X (x_dr DX6_event 20 rfl) 0 rfl rfl ?_
            refine gf_6_24 X rfl (x_dr DX6_event 21 rfl) ?_
            refine r_iload_n X (x_dr DX6_event 22 rfl) 1 rfl rfl ?_
            refine r_iload_n X (x_dr DX6_event 23 rfl) 2 rfl rfl ?_
            refine r_iload_n X (x_dr DX6_event 24 rfl) 3 rfl rfl ?_
            refine cl1_addEvent X (k1_addEvent rfl h) rfl ml_6_128 ⟨Nat.le_of_ble_eq_true rfl, Nat.le_of_ble_eq_true rfl⟩ (Nat.le_of_ble_eq_true rfl) (x_dr DX6_event 25 rfl) (fun s10 h => ?_)
            refine r_aload_n X (x_dr DX6_event 26 rfl) 0 rfl rfl ?_
            refine r_iconst (v := 1) X (x_dr DX6_event 27 rfl) (by decide) ?_
            refine pf_6_70 X rfl (Or.inr rfl) (x_dr DX6_event 28 rfl) ?_
            refine r_nmS (fun s11 es11 => ?_)
            replace h := h s11 es11
            refine r_aload_n X (x_dr DX6_event 29 rfl) 0 rfl rfl ?_
            refine gf_6_24 X rfl (x_dr DX6_event 30 rfl) ?_
            refine gf_6_124 X rfl (x_dr DX6_event 31 rfl) ?_
            exact r_iret X rfl (x_dr DX6_event 32 rfl) ⟨_, rfl, h⟩
          · replace h := h.2 c9
            refine r_bipush (v := (-4)) X (x_dr DX6_event 18 rfl) (by decide) ?_
            exact r_iret X rfl (x_dr DX6_event 19 rfl) ⟨_, rfl, h⟩
        · replace h := h.2 c8
          refine r_bipush (v := (-2)) X (x_dr DX6_event 11 rfl) (by decide) ?_
          exact r_iret X rfl (x_dr DX6_event 12 rfl) ⟨_, rfl, h⟩
set_option maxRecDepth 10000 in
theorem k6_back {ad : xAd} {G : xG} {l : Launch} {σ : xSt} {Q : Int32 → xSt → Prop}  (h : d6_back σ Q) : MC ad G l yX6_back cX6_back 1 (some .int) 2 42 [.ref (ad 0 0 0)] σ (qI Q) := by
  unfold d6_back at h
  refine x_MC [(0, .ref (ad 0 0 0))] (by decide +kernel) rfl (Nat.le_of_ble_eq_true rfl) ?_
  intro E hG hl X
  replace X : FX ad E cX6_back 1 RX6 (some .int) 2 42 := X
  refine r_aload_n X (x_dr DX6_back 0 rfl) 0 rfl rfl ?_
  refine gf_6_24 X rfl (x_dr DX6_back 1 rfl) ?_
  refine gf_6_124 X rfl (x_dr DX6_back 2 rfl) ?_
  refine r_if_ne X 13 (x_dr DX6_back 3 rfl) (by decide) (fun c1 => ?_) (fun c1 => ?_)
  · replace h := h.1 c1
    refine r_aload_n X (x_dr DX6_back 6 rfl) 0 rfl rfl ?_
    refine gf_6_24 X rfl (x_dr DX6_back 7 rfl) ?_
    refine r_aload_n X (x_dr DX6_back 8 rfl) 0 rfl rfl ?_
    refine gf_6_24 X rfl (x_dr DX6_back 9 rfl) ?_
    refine gf_6_124 X rfl (x_dr DX6_back 10 rfl) ?_
    refine r_iconst (v := 1) X (x_dr DX6_back 11 rfl) (by decide) ?_
    refine r_isub X (x_dr DX6_back 12 rfl) ?_
    refine cl1_dropEvents X (k1_dropEvents rfl h) rfl ml_6_132 ⟨Nat.le_of_ble_eq_true rfl, Nat.le_of_ble_eq_true rfl⟩ (Nat.le_of_ble_eq_true rfl) (x_dr DX6_back 13 rfl) (fun s2 h => ?_)
    refine r_aload_n X (x_dr DX6_back 14 rfl) 0 rfl rfl ?_
    refine r_iconst (v := 1) X (x_dr DX6_back 15 rfl) (by decide) ?_
    refine pf_6_70 X rfl (Or.inr rfl) (x_dr DX6_back 16 rfl) ?_
    refine r_nmS (fun s3 es3 => ?_)
    replace h := h s3 es3
    refine r_aload_n X (x_dr DX6_back 17 rfl) 0 rfl rfl ?_
    refine gf_6_24 X rfl (x_dr DX6_back 18 rfl) ?_
    refine gf_6_124 X rfl (x_dr DX6_back 19 rfl) ?_
    exact r_iret X rfl (x_dr DX6_back 20 rfl) ⟨_, rfl, h⟩
  · replace h := h.2 c1
    refine r_bipush (v := (-3)) X (x_dr DX6_back 4 rfl) (by decide) ?_
    exact r_iret X rfl (x_dr DX6_back 5 rfl) ⟨_, rfl, h⟩
set_option maxRecDepth 10000 in
theorem k6_sheetOf {ad : xAd} {G : xG} {l : Launch} {a1 : Int32} {σ : xSt} {Q : Option Nat → xSt → Prop}  (h : d6_sheetOf a1 σ Q) : MC ad G l yX6_sheetOf cX6_sheetOf 2 (some (.object "WoodliceSenate$Sheet")) 0 0 [.ref (ad 0 0 0), .int a1] σ (qR ad 3 Q) := by
  unfold d6_sheetOf at h
  refine x_MC [(0, .ref (ad 0 0 0)), (1, .int a1)] (by decide +kernel) rfl (Nat.le_of_ble_eq_true rfl) ?_
  intro E hG hl X
  replace X : FX ad E cX6_sheetOf 2 RX6 (some (.object "WoodliceSenate$Sheet")) 0 0 := X
  refine r_iload_n X (x_dr DX6_sheetOf 0 rfl) 1 rfl rfl ?_
  refine r_if_lt X 18 (x_dr DX6_sheetOf 1 rfl) (by decide) (fun c1 => ?_) (fun c1 => ?_)
  · replace h := h.1 c1
    refine r_null X (x_dr DX6_sheetOf 10 rfl) ?_
    exact r_aretN X rfl (x_dr DX6_sheetOf 11 rfl) (Or.inl ⟨rfl, h⟩)
  · replace h := h.2 c1
    refine r_iload_n X (x_dr DX6_sheetOf 2 rfl) 1 rfl rfl ?_
    refine r_iconst (v := 4) X (x_dr DX6_sheetOf 3 rfl) (by decide) ?_
    refine r_icmp_ge X 18 (x_dr DX6_sheetOf 4 rfl) (by decide) (fun c2 => ?_) (fun c2 => ?_)
    · replace h := h.1 c2
      refine r_null X (x_dr DX6_sheetOf 10 rfl) ?_
      exact r_aretN X rfl (x_dr DX6_sheetOf 11 rfl) (Or.inl ⟨rfl, h⟩)
    · replace h := h.2 c2
      refine r_aload_n X (x_dr DX6_sheetOf 5 rfl) 0 rfl rfl ?_
      refine gf_6_57 X rfl (x_dr DX6_sheetOf 6 rfl) ?_
      refine r_iload_n X (x_dr DX6_sheetOf 7 rfl) 1 rfl rfl ?_
      obtain ⟨b3, h⟩ := h
      refine r_aaldS X b3 (x_dr DX6_sheetOf 8 rfl) ?_
      refine r_goto X 19 (x_dr DX6_sheetOf 9 rfl) (by decide) ?_
      exact r_aret X rfl (x_dr DX6_sheetOf 11 rfl) (Or.inr ⟨_, (x_cl_sheet b3), rfl, h⟩)
set_option maxRecDepth 10000 in
theorem k6_finding {ad : xAd} {G : xG} {l : Launch} {a1 : Int32} {σ : xSt} {Q : Int32 → xSt → Prop}  (h : d6_finding a1 σ Q) : MC ad G l yX6_finding cX6_finding 2 (some .int) 0 0 [.ref (ad 0 0 0), .int a1] σ (qI Q) := by
  unfold d6_finding at h
  refine x_MC [(0, .ref (ad 0 0 0)), (1, .int a1)] (by decide +kernel) rfl (Nat.le_of_ble_eq_true rfl) ?_
  intro E hG hl X
  replace X : FX ad E cX6_finding 2 RX6 (some .int) 0 0 := X
  refine r_aload_n X (x_dr DX6_finding 0 rfl) 0 rfl rfl ?_
  refine r_iload_n X (x_dr DX6_finding 1 rfl) 1 rfl rfl ?_
  refine pf_6_302 X rfl (x_dr DX6_finding 2 rfl) ?_
  refine r_nmS (fun s1 es1 => ?_)
  replace h := h s1 es1
  refine r_bipush (v := (-10)) X (x_dr DX6_finding 3 rfl) (by decide) ?_
  refine r_iload_n X (x_dr DX6_finding 4 rfl) 1 rfl rfl ?_
  refine r_isub X (x_dr DX6_finding 5 rfl) ?_
  exact r_iret X rfl (x_dr DX6_finding 6 rfl) ⟨_, rfl, h⟩
set_option maxRecDepth 10000 in
theorem w6_read_L31 {ad : xAd} {E : xE} (X : FX ad E cX6_read 5 RX6 (some .int) 2 46) {ob3 : Nat} (hob3 : x_cl ob3 = 3) {K : Int32 → xSt → Prop} {Q : Int32 → xSt → Prop} : ∀ (n : Nat) (a3 : Int32) (a4 : Int32) (σ : xSt), d6_read_L31 ob3 K Q n a3 a4 σ → (∀ (a3 : Int32) (s : xSt), K a3 s → KK ad E (qI Q) 82 ([(3, .int a3)]) [] s) → KK ad E (qI Q) 31 ([(0, .ref (ad 0 0 0)), (2, .ref (ad ob3 0 0)), (3, .int a3), (4, .int a4)]) [] σ := by
  intro n
  induction n with
  | zero => intro a3 a4 σ h kk; exact h.elim
  | succ n ih =>
    intro a3 a4 σ h kk
    rw [d6_read_L31] at h
    refine r_iload X (x_dr DX6_read 19 rfl) 3 rfl ?_
    refine r_iconst (v := 2) X (x_dr DX6_read 20 rfl) (by decide) ?_
    refine r_iadd X (x_dr DX6_read 21 rfl) ?_
    refine r_aload_n X (x_dr DX6_read 22 rfl) 1 rfl rfl ?_
    refine gf_6_146 X hob3 (x_dr DX6_read 23 rfl) ?_
    refine r_icmp_ge X 82 (x_dr DX6_read 24 rfl) (by decide) (fun c7 => ?_) (fun c7 => ?_)
    · replace h := h.1 c7
      refine r_norm X [2] ([(3, .int a3)]) rfl ?_
      exact kk _ _ h
    · replace h := h.2 c7
      refine r_aload_n X (x_dr DX6_read 25 rfl) 0 rfl rfl ?_
      refine r_aload_n X (x_dr DX6_read 26 rfl) 1 rfl rfl ?_
      refine r_iload X (x_dr DX6_read 27 rfl) 3 rfl ?_
      refine cl3_item X (k3_item hob3 h) hob3 ml_6_148 ⟨Nat.le_of_ble_eq_true rfl, Nat.le_of_ble_eq_true rfl⟩ (Nat.le_of_ble_eq_true rfl) (x_dr DX6_read 28 rfl) (fun v9 s8 h => ?_)
      refine r_aload_n X (x_dr DX6_read 29 rfl) 1 rfl rfl ?_
      refine r_iload X (x_dr DX6_read 30 rfl) 3 rfl ?_
      refine r_iconst (v := 1) X (x_dr DX6_read 31 rfl) (by decide) ?_
      refine r_iadd X (x_dr DX6_read 32 rfl) ?_
      refine cl3_item X (k3_item hob3 h) hob3 ml_6_148 ⟨Nat.le_of_ble_eq_true rfl, Nat.le_of_ble_eq_true rfl⟩ (Nat.le_of_ble_eq_true rfl) (x_dr DX6_read 33 rfl) (fun v11 s10 h => ?_)
      refine r_aload_n X (x_dr DX6_read 34 rfl) 1 rfl rfl ?_
      refine r_iload X (x_dr DX6_read 35 rfl) 3 rfl ?_
      refine r_iconst (v := 2) X (x_dr DX6_read 36 rfl) (by decide) ?_
      refine r_iadd X (x_dr DX6_read 37 rfl) ?_
      refine cl3_item X (k3_item hob3 h) hob3 ml_6_148 ⟨Nat.le_of_ble_eq_true rfl, Nat.le_of_ble_eq_true rfl⟩ (Nat.le_of_ble_eq_true rfl) (x_dr DX6_read 38 rfl) (fun v13 s12 h => ?_)
      refine cl6_event X (k6_event h) rfl ml_6_151 ⟨Nat.le_of_ble_eq_true rfl, Nat.le_of_ble_eq_true rfl⟩ (Nat.le_of_ble_eq_true rfl) (x_dr DX6_read 39 rfl) (fun v15 s14 h => ?_)
      refine r_if_ge X 73 (x_dr DX6_read 40 rfl) (by decide) (fun c16 => ?_) (fun c16 => ?_)
      · replace h := h.1 c16
        obtain ⟨v17, ev17⟩ : ∃ z : Int32, z = a3 + 1 := ⟨_, rfl⟩
        replace h := h v17 ev17
        refine r_iinc (v := v17) X ([(3, .int v17), (0, .ref (ad 0 0 0)), (2, .ref (ad ob3 0 0)), (4, .int a4)]) 2 (x_dr DX6_read 43 rfl) rfl (by rw [ev17]; rfl) (by decide) rfl ?_
        obtain ⟨v18, ev18⟩ : ∃ z : Int32, z = a4 + 3 := ⟨_, rfl⟩
        replace h := h v18 ev18
        refine r_iinc (v := v18) X ([(4, .int v18), (3, .int v17), (0, .ref (ad 0 0 0)), (2, .ref (ad ob3 0 0))]) 3 (x_dr DX6_read 44 rfl) rfl (by rw [ev18]; rfl) (by decide) rfl ?_
        refine r_goto X 31 (x_dr DX6_read 45 rfl) (by decide) ?_
        refine r_norm X [2, 3, 1, 0] ([(0, .ref (ad 0 0 0)), (2, .ref (ad ob3 0 0)), (3, .int v17), (4, .int v18)]) rfl ?_
        exact ih _ _ _ h kk
      · replace h := h.2 c16
        refine r_iload_n X (x_dr DX6_read 41 rfl) 2 rfl rfl ?_
        exact r_iret X rfl (x_dr DX6_read 42 rfl) ⟨_, rfl, h⟩
set_option maxRecDepth 10000 in
theorem k6_read {ad : xAd} {G : xG} {l : Launch} {a1 : Int32} {σ : xSt} {Q : Int32 → xSt → Prop}  (h : d6_read a1 σ Q) : MC ad G l yX6_read cX6_read 5 (some .int) 2 46 [.ref (ad 0 0 0), .int a1] σ (qI Q) := by
  unfold d6_read at h
  refine x_MC [(0, .ref (ad 0 0 0)), (1, .int a1)] (by decide +kernel) rfl (Nat.le_of_ble_eq_true rfl) ?_
  intro E hG hl X
  replace X : FX ad E cX6_read 5 RX6 (some .int) 2 46 := X
  refine r_aload_n X (x_dr DX6_read 0 rfl) 0 rfl rfl ?_
  refine r_iload_n X (x_dr DX6_read 1 rfl) 1 rfl rfl ?_
  refine cl6_sheetOf X (k6_sheetOf h) rfl ml_6_135 ⟨Nat.le_of_ble_eq_true rfl, Nat.le_of_ble_eq_true rfl⟩ (Nat.le_of_ble_eq_true rfl) (x_dr DX6_read 2 rfl) (fun s1 h => ?_) (fun s1 ob3 hob3 h => ?_)
  · replace h := h.1 rfl
    refine r_astore_nN X ([(2, .null), (0, .ref (ad 0 0 0)), (1, .int a1)]) (x_dr DX6_read 3 rfl) rfl (by decide) rfl ?_
    refine r_aload_nN X (x_dr DX6_read 4 rfl) 0 rfl rfl ?_
    refine r_ifnonnullN X (x_dr DX6_read 5 rfl) ?_
    refine r_bipush (v := (-2)) X (x_dr DX6_read 6 rfl) (by decide) ?_
    exact r_iret X rfl (x_dr DX6_read 7 rfl) ⟨_, rfl, h⟩
  · replace h := h.2 ob3 rfl hob3
    refine r_astore_n X ([(2, .ref (ad ob3 0 0)), (0, .ref (ad 0 0 0)), (1, .int a1)]) (x_dr DX6_read 3 rfl) rfl (by decide) rfl ?_
    refine r_aload_n X (x_dr DX6_read 4 rfl) 0 rfl rfl ?_
    refine r_ifnonnull X 13 (x_dr DX6_read 5 rfl) (by decide) ?_
    refine r_aload_n X (x_dr DX6_read 8 rfl) 0 rfl rfl ?_
    refine cl3_isLost X (k3_isLost hob3 h) hob3 ml_6_139 ⟨Nat.le_of_ble_eq_true rfl, Nat.le_of_ble_eq_true rfl⟩ (Nat.le_of_ble_eq_true rfl) (x_dr DX6_read 9 rfl) (fun v5 s4 zv5 h => ?_)
    refine r_if_eq X 26 (x_dr DX6_read 10 rfl) (by decide) (fun c6 => ?_) (fun c6 => ?_)
    · replace h := h.1 c6
      refine r_iconst (v := 0) X (x_dr DX6_read 15 rfl) (by decide) ?_
      refine r_istore_n X ([(3, .int 0), (2, .ref (ad ob3 0 0)), (0, .ref (ad 0 0 0)), (1, .int a1)]) (x_dr DX6_read 16 rfl) rfl (by decide) rfl ?_
      refine r_iconst (v := 0) X (x_dr DX6_read 17 rfl) (by decide) ?_
      refine r_istore X ([(4, .int 0), (3, .int 0), (2, .ref (ad ob3 0 0)), (0, .ref (ad 0 0 0)), (1, .int a1)]) (x_dr DX6_read 18 rfl) (by decide) rfl ?_
      refine r_norm X [3, 2, 1, 0] ([(0, .ref (ad 0 0 0)), (2, .ref (ad ob3 0 0)), (3, .int 0), (4, .int 0)]) rfl ?_
      refine w6_read_L31 X hob3 _ _ _ _ h (fun v20 s19 h => ?_)
      refine r_iload_n X (x_dr DX6_read 46 rfl) 0 rfl rfl ?_
      exact r_iret X rfl (x_dr DX6_read 47 rfl) ⟨_, rfl, h⟩
    · replace h := h.2 c6
      refine r_aload_n X (x_dr DX6_read 11 rfl) 1 rfl rfl ?_
      refine r_iconst (v := 1) X (x_dr DX6_read 12 rfl) (by decide) ?_
      refine cl6_finding X (k6_finding h) rfl ml_6_143 ⟨Nat.le_of_ble_eq_true rfl, Nat.le_of_ble_eq_true rfl⟩ (Nat.le_of_ble_eq_true rfl) (x_dr DX6_read 13 rfl) (fun v22 s21 h => ?_)
      exact r_iret X rfl (x_dr DX6_read 14 rfl) ⟨_, rfl, h⟩
set_option maxRecDepth 10000 in
theorem k6_chamberAsTold {ad : xAd} {G : xG} {l : Launch} {σ : xSt} {Q : xSt → Prop}  (h : d6_chamberAsTold σ Q) : MC ad G l yX6_chamberAsTold cX6_chamberAsTold 1 (some (.object "WoodliceSenate$Chamber")) 3 70 [.ref (ad 0 0 0)] σ (qC ad 5 Q) := by
  unfold d6_chamberAsTold at h
  refine x_MC [(0, .ref (ad 0 0 0))] (by decide +kernel) rfl (Nat.le_of_ble_eq_true rfl) ?_
  intro E hG hl X
  replace X : FX ad E cX6_chamberAsTold 1 RX6 (some (.object "WoodliceSenate$Chamber")) 3 70 := X
  refine r_aload_n X (x_dr DX6_chamberAsTold 0 rfl) 0 rfl rfl ?_
  refine gf_6_70 X rfl (x_dr DX6_chamberAsTold 1 rfl) ?_
  refine r_if_eq X 25 (x_dr DX6_chamberAsTold 2 rfl) (by decide) (fun c1 => ?_) (fun c1 => ?_)
  · replace h := h.1 c1
    refine r_aload_n X (x_dr DX6_chamberAsTold 12 rfl) 0 rfl rfl ?_
    refine gf_6_34 X rfl (x_dr DX6_chamberAsTold 13 rfl) ?_
    exact r_aret X rfl (x_dr DX6_chamberAsTold 14 rfl) ⟨rfl, h⟩
  · replace h := h.2 c1
    refine r_aload_n X (x_dr DX6_chamberAsTold 3 rfl) 0 rfl rfl ?_
    refine gf_6_34 X rfl (x_dr DX6_chamberAsTold 4 rfl) ?_
    refine r_aload_n X (x_dr DX6_chamberAsTold 5 rfl) 0 rfl rfl ?_
    refine gf_6_24 X rfl (x_dr DX6_chamberAsTold 6 rfl) ?_
    refine r_bipush (v := 20) X (x_dr DX6_chamberAsTold 7 rfl) (by decide) ?_
    refine cl2_sit X (k2_sit rfl rfl h) rfl ml_6_241 ⟨Nat.le_of_ble_eq_true rfl, Nat.le_of_ble_eq_true rfl⟩ (Nat.le_of_ble_eq_true rfl) (x_dr DX6_chamberAsTold 8 rfl) (fun s2 h => ?_)
    refine r_aload_n X (x_dr DX6_chamberAsTold 9 rfl) 0 rfl rfl ?_
    refine r_iconst (v := 0) X (x_dr DX6_chamberAsTold 10 rfl) (by decide) ?_
    refine pf_6_70 X rfl (Or.inl rfl) (x_dr DX6_chamberAsTold 11 rfl) ?_
    refine r_nmS (fun s3 es3 => ?_)
    replace h := h s3 es3
    refine r_aload_n X (x_dr DX6_chamberAsTold 12 rfl) 0 rfl rfl ?_
    refine gf_6_34 X rfl (x_dr DX6_chamberAsTold 13 rfl) ?_
    exact r_aret X rfl (x_dr DX6_chamberAsTold 14 rfl) ⟨rfl, h⟩
set_option maxRecDepth 10000 in
theorem k6_damp {ad : xAd} {G : xG} {l : Launch} {a1 : Int32} {a2 : Int32} {a3 : Int32} {σ : xSt} {Q : Int32 → xSt → Prop}  (h : d6_damp a1 a2 a3 σ Q) : MC ad G l yX6_damp cX6_damp 5 (some .int) 4 90 [.ref (ad 0 0 0), .int a1, .int a2, .int a3] σ (qI Q) := by
  unfold d6_damp at h
  refine x_MC [(0, .ref (ad 0 0 0)), (1, .int a1), (2, .int a2), (3, .int a3)] (by decide +kernel) rfl (Nat.le_of_ble_eq_true rfl) ?_
  intro E hG hl X
  replace X : FX ad E cX6_damp 5 RX6 (some .int) 4 90 := X
  refine r_iload_n X (x_dr DX6_damp 0 rfl) 1 rfl rfl ?_
  refine cl6_isHour X (k6_isHour h) ml_6_121 ⟨Nat.le_of_ble_eq_true rfl, Nat.le_of_ble_eq_true rfl⟩ (Nat.le_of_ble_eq_true rfl) (x_dr DX6_damp 1 rfl) (fun v2 s1 zv2 h => ?_)
  refine r_if_eq X 23 (x_dr DX6_damp 2 rfl) (by decide) (fun c3 => ?_) (fun c3 => ?_)
  · replace h := h.1 c3
    refine r_bipush (v := (-2)) X (x_dr DX6_damp 11 rfl) (by decide) ?_
    exact r_iret X rfl (x_dr DX6_damp 12 rfl) ⟨_, rfl, h⟩
  · replace h := h.2 c3
    refine r_iload_n X (x_dr DX6_damp 3 rfl) 2 rfl rfl ?_
    refine cl6_isPlace X (k6_isPlace h) ml_6_102 ⟨Nat.le_of_ble_eq_true rfl, Nat.le_of_ble_eq_true rfl⟩ (Nat.le_of_ble_eq_true rfl) (x_dr DX6_damp 4 rfl) (fun v5 s4 zv5 h => ?_)
    refine r_if_eq X 23 (x_dr DX6_damp 5 rfl) (by decide) (fun c6 => ?_) (fun c6 => ?_)
    · replace h := h.1 c6
      refine r_bipush (v := (-2)) X (x_dr DX6_damp 11 rfl) (by decide) ?_
      exact r_iret X rfl (x_dr DX6_damp 12 rfl) ⟨_, rfl, h⟩
    · replace h := h.2 c6
      refine r_iload_n X (x_dr DX6_damp 6 rfl) 3 rfl rfl ?_
      refine r_if_lt X 23 (x_dr DX6_damp 7 rfl) (by decide) (fun c7 => ?_) (fun c7 => ?_)
      · replace h := h.1 c7
        refine r_bipush (v := (-2)) X (x_dr DX6_damp 11 rfl) (by decide) ?_
        exact r_iret X rfl (x_dr DX6_damp 12 rfl) ⟨_, rfl, h⟩
      · replace h := h.2 c7
        refine r_iload_n X (x_dr DX6_damp 8 rfl) 3 rfl rfl ?_
        refine r_iconst (v := 1) X (x_dr DX6_damp 9 rfl) (by decide) ?_
        refine r_icmp_le X 26 (x_dr DX6_damp 10 rfl) (by decide) (fun c8 => ?_) (fun c8 => ?_)
        · replace h := h.1 c8
          refine r_aload_n X (x_dr DX6_damp 13 rfl) 0 rfl rfl ?_
          refine cl6_chamberAsTold X (k6_chamberAsTold h) rfl ml_6_155 ⟨Nat.le_of_ble_eq_true rfl, Nat.le_of_ble_eq_true rfl⟩ (Nat.le_of_ble_eq_true rfl) (x_dr DX6_damp 14 rfl) (fun s9 h => ?_)
          refine r_astore X ([(4, .ref (ad 5 0 0)), (0, .ref (ad 0 0 0)), (1, .int a1), (2, .int a2), (3, .int a3)]) (x_dr DX6_damp 15 rfl) (by decide) rfl ?_
          refine r_iload_n X (x_dr DX6_damp 16 rfl) 4 rfl rfl ?_
          refine r_if_ne X 46 (x_dr DX6_damp 17 rfl) (by decide) (fun c10 => ?_) (fun c10 => ?_)
          · replace h := h.1 c10
            refine r_aload X (x_dr DX6_damp 23 rfl) 0 rfl ?_
            refine r_iload_n X (x_dr DX6_damp 24 rfl) 2 rfl rfl ?_
            refine r_iload_n X (x_dr DX6_damp 25 rfl) 3 rfl rfl ?_
            refine cl2_headsAt X (k2_headsAt rfl h) rfl ml_6_163 ⟨Nat.le_of_ble_eq_true rfl, Nat.le_of_ble_eq_true rfl⟩ (Nat.le_of_ble_eq_true rfl) (x_dr DX6_damp 26 rfl) (fun v12 s11 h => ?_)
            exact r_iret X rfl (x_dr DX6_damp 27 rfl) ⟨_, rfl, h⟩
          · replace h := h.2 c10
            refine r_aload X (x_dr DX6_damp 18 rfl) 0 rfl ?_
            refine r_iload_n X (x_dr DX6_damp 19 rfl) 2 rfl rfl ?_
            refine r_iload_n X (x_dr DX6_damp 20 rfl) 3 rfl rfl ?_
            refine cl2_dampOf X (k2_dampOf rfl h) rfl ml_6_159 ⟨Nat.le_of_ble_eq_true rfl, Nat.le_of_ble_eq_true rfl⟩ (Nat.le_of_ble_eq_true rfl) (x_dr DX6_damp 21 rfl) (fun v14 s13 h => ?_)
            refine r_goto X 53 (x_dr DX6_damp 22 rfl) (by decide) ?_
            exact r_iret X rfl (x_dr DX6_damp 27 rfl) ⟨_, rfl, h⟩
        · replace h := h.2 c8
          refine r_bipush (v := (-2)) X (x_dr DX6_damp 11 rfl) (by decide) ?_
          exact r_iret X rfl (x_dr DX6_damp 12 rfl) ⟨_, rfl, h⟩
set_option maxRecDepth 10000 in
theorem k6_at {ad : xAd} {G : xG} {l : Launch} {a1 : Int32} {a2 : Int32} {a3 : Int32} {σ : xSt} {Q : Int32 → xSt → Prop}  (h : d6_at a1 a2 a3 σ Q) : MC ad G l yX6_at cX6_at 4 (some .int) 4 90 [.ref (ad 0 0 0), .int a1, .int a2, .int a3] σ (qI Q) := by
  unfold d6_at at h
  refine x_MC [(0, .ref (ad 0 0 0)), (1, .int a1), (2, .int a2), (3, .int a3)] (by decide +kernel) rfl (Nat.le_of_ble_eq_true rfl) ?_
  intro E hG hl X
  replace X : FX ad E cX6_at 4 RX6 (some .int) 4 90 := X
  refine r_iload_n X (x_dr DX6_at 0 rfl) 1 rfl rfl ?_
  refine cl6_isHour X (k6_isHour h) ml_6_121 ⟨Nat.le_of_ble_eq_true rfl, Nat.le_of_ble_eq_true rfl⟩ (Nat.le_of_ble_eq_true rfl) (x_dr DX6_at 1 rfl) (fun v2 s1 zv2 h => ?_)
  refine r_if_eq X 27 (x_dr DX6_at 2 rfl) (by decide) (fun c3 => ?_) (fun c3 => ?_)
  · replace h := h.1 c3
    refine r_bipush (v := (-2)) X (x_dr DX6_at 13 rfl) (by decide) ?_
    exact r_iret X rfl (x_dr DX6_at 14 rfl) ⟨_, rfl, h⟩
  · replace h := h.2 c3
    refine r_aload_n X (x_dr DX6_at 3 rfl) 0 rfl rfl ?_
    refine gf_6_24 X rfl (x_dr DX6_at 4 rfl) ?_
    refine r_iload_n X (x_dr DX6_at 5 rfl) 2 rfl rfl ?_
    refine cl1_hasMember X (k1_hasMember rfl h) rfl ml_6_109 ⟨Nat.le_of_ble_eq_true rfl, Nat.le_of_ble_eq_true rfl⟩ (Nat.le_of_ble_eq_true rfl) (x_dr DX6_at 6 rfl) (fun v5 s4 zv5 h => ?_)
    refine r_if_eq X 27 (x_dr DX6_at 7 rfl) (by decide) (fun c6 => ?_) (fun c6 => ?_)
    · replace h := h.1 c6
      refine r_bipush (v := (-2)) X (x_dr DX6_at 13 rfl) (by decide) ?_
      exact r_iret X rfl (x_dr DX6_at 14 rfl) ⟨_, rfl, h⟩
    · replace h := h.2 c6
      refine r_iload_n X (x_dr DX6_at 8 rfl) 3 rfl rfl ?_
      refine r_if_lt X 27 (x_dr DX6_at 9 rfl) (by decide) (fun c7 => ?_) (fun c7 => ?_)
      · replace h := h.1 c7
        refine r_bipush (v := (-2)) X (x_dr DX6_at 13 rfl) (by decide) ?_
        exact r_iret X rfl (x_dr DX6_at 14 rfl) ⟨_, rfl, h⟩
      · replace h := h.2 c7
        refine r_iload_n X (x_dr DX6_at 10 rfl) 3 rfl rfl ?_
        refine r_iconst (v := 3) X (x_dr DX6_at 11 rfl) (by decide) ?_
        refine r_icmp_le X 30 (x_dr DX6_at 12 rfl) (by decide) (fun c8 => ?_) (fun c8 => ?_)
        · replace h := h.1 c8
          refine r_aload_n X (x_dr DX6_at 15 rfl) 0 rfl rfl ?_
          refine cl6_chamberAsTold X (k6_chamberAsTold h) rfl ml_6_155 ⟨Nat.le_of_ble_eq_true rfl, Nat.le_of_ble_eq_true rfl⟩ (Nat.le_of_ble_eq_true rfl) (x_dr DX6_at 16 rfl) (fun s9 h => ?_)
          refine r_iload_n X (x_dr DX6_at 17 rfl) 1 rfl rfl ?_
          refine r_iload_n X (x_dr DX6_at 18 rfl) 2 rfl rfl ?_
          refine r_iload_n X (x_dr DX6_at 19 rfl) 3 rfl rfl ?_
          refine cl2_ofMember X (k2_ofMember rfl h) rfl ml_6_166 ⟨Nat.le_of_ble_eq_true rfl, Nat.le_of_ble_eq_true rfl⟩ (Nat.le_of_ble_eq_true rfl) (x_dr DX6_at 20 rfl) (fun v11 s10 h => ?_)
          exact r_iret X rfl (x_dr DX6_at 21 rfl) ⟨_, rfl, h⟩
        · replace h := h.2 c8
          refine r_bipush (v := (-2)) X (x_dr DX6_at 13 rfl) (by decide) ?_
          exact r_iret X rfl (x_dr DX6_at 14 rfl) ⟨_, rfl, h⟩
set_option maxRecDepth 10000 in
theorem k6_house {ad : xAd} {G : xG} {l : Launch} {a1 : Int32} {a2 : Int32} {σ : xSt} {Q : Int32 → xSt → Prop}  (h : d6_house a1 a2 σ Q) : MC ad G l yX6_house cX6_house 4 (some .int) 4 90 [.ref (ad 0 0 0), .int a1, .int a2] σ (qI Q) := by
  unfold d6_house at h
  refine x_MC [(0, .ref (ad 0 0 0)), (1, .int a1), (2, .int a2)] (by decide +kernel) rfl (Nat.le_of_ble_eq_true rfl) ?_
  intro E hG hl X
  replace X : FX ad E cX6_house 4 RX6 (some .int) 4 90 := X
  refine r_iload_n X (x_dr DX6_house 0 rfl) 1 rfl rfl ?_
  refine cl6_isHour X (k6_isHour h) ml_6_121 ⟨Nat.le_of_ble_eq_true rfl, Nat.le_of_ble_eq_true rfl⟩ (Nat.le_of_ble_eq_true rfl) (x_dr DX6_house 1 rfl) (fun v2 s1 zv2 h => ?_)
  refine r_if_eq X 16 (x_dr DX6_house 2 rfl) (by decide) (fun c3 => ?_) (fun c3 => ?_)
  · replace h := h.1 c3
    refine r_bipush (v := (-2)) X (x_dr DX6_house 8 rfl) (by decide) ?_
    exact r_iret X rfl (x_dr DX6_house 9 rfl) ⟨_, rfl, h⟩
  · replace h := h.2 c3
    refine r_iload_n X (x_dr DX6_house 3 rfl) 2 rfl rfl ?_
    refine r_if_lt X 16 (x_dr DX6_house 4 rfl) (by decide) (fun c4 => ?_) (fun c4 => ?_)
    · replace h := h.1 c4
      refine r_bipush (v := (-2)) X (x_dr DX6_house 8 rfl) (by decide) ?_
      exact r_iret X rfl (x_dr DX6_house 9 rfl) ⟨_, rfl, h⟩
    · replace h := h.2 c4
      refine r_iload_n X (x_dr DX6_house 5 rfl) 2 rfl rfl ?_
      refine r_iconst (v := 2) X (x_dr DX6_house 6 rfl) (by decide) ?_
      refine r_icmp_le X 19 (x_dr DX6_house 7 rfl) (by decide) (fun c5 => ?_) (fun c5 => ?_)
      · replace h := h.1 c5
        refine r_aload_n X (x_dr DX6_house 10 rfl) 0 rfl rfl ?_
        refine cl6_chamberAsTold X (k6_chamberAsTold h) rfl ml_6_155 ⟨Nat.le_of_ble_eq_true rfl, Nat.le_of_ble_eq_true rfl⟩ (Nat.le_of_ble_eq_true rfl) (x_dr DX6_house 11 rfl) (fun s6 h => ?_)
        refine r_astore_n X ([(3, .ref (ad 5 0 0)), (0, .ref (ad 0 0 0)), (1, .int a1), (2, .int a2)]) (x_dr DX6_house 12 rfl) rfl (by decide) rfl ?_
        refine r_iload_n X (x_dr DX6_house 13 rfl) 3 rfl rfl ?_
        refine r_if_ne X 34 (x_dr DX6_house 14 rfl) (by decide) (fun c7 => ?_) (fun c7 => ?_)
        · replace h := h.1 c7
          refine r_iload_n X (x_dr DX6_house 19 rfl) 3 rfl rfl ?_
          refine r_iconst (v := 1) X (x_dr DX6_house 20 rfl) (by decide) ?_
          refine r_icmp_ne X 45 (x_dr DX6_house 21 rfl) (by decide) (fun c8 => ?_) (fun c8 => ?_)
          · replace h := h.1 c8
            refine r_aload_n X (x_dr DX6_house 26 rfl) 0 rfl rfl ?_
            refine r_iload_n X (x_dr DX6_house 27 rfl) 2 rfl rfl ?_
            refine cl2_carries X (k2_carries rfl h) rfl ml_6_175 ⟨Nat.le_of_ble_eq_true rfl, Nat.le_of_ble_eq_true rfl⟩ (Nat.le_of_ble_eq_true rfl) (x_dr DX6_house 28 rfl) (fun v10 s9 zv10 h => ?_)
            refine r_if_eq X 57 (x_dr DX6_house 29 rfl) (by decide) (fun c11 => ?_) (fun c11 => ?_)
            · replace h := h.1 c11
              refine r_iconst (v := 0) X (x_dr DX6_house 32 rfl) (by decide) ?_
              exact r_iret X rfl (x_dr DX6_house 33 rfl) ⟨_, rfl, h⟩
            · replace h := h.2 c11
              refine r_iconst (v := 1) X (x_dr DX6_house 30 rfl) (by decide) ?_
              refine r_goto X 58 (x_dr DX6_house 31 rfl) (by decide) ?_
              exact r_iret X rfl (x_dr DX6_house 33 rfl) ⟨_, rfl, h⟩
          · replace h := h.2 c8
            refine r_aload_n X (x_dr DX6_house 22 rfl) 0 rfl rfl ?_
            refine r_iload_n X (x_dr DX6_house 23 rfl) 2 rfl rfl ?_
            refine cl2_noesOf X (k2_noesOf rfl h) rfl ml_6_172 ⟨Nat.le_of_ble_eq_true rfl, Nat.le_of_ble_eq_true rfl⟩ (Nat.le_of_ble_eq_true rfl) (x_dr DX6_house 24 rfl) (fun v13 s12 h => ?_)
            exact r_iret X rfl (x_dr DX6_house 25 rfl) ⟨_, rfl, h⟩
        · replace h := h.2 c7
          refine r_aload_n X (x_dr DX6_house 15 rfl) 0 rfl rfl ?_
          refine r_iload_n X (x_dr DX6_house 16 rfl) 2 rfl rfl ?_
          refine cl2_ayesOf X (k2_ayesOf rfl h) rfl ml_6_169 ⟨Nat.le_of_ble_eq_true rfl, Nat.le_of_ble_eq_true rfl⟩ (Nat.le_of_ble_eq_true rfl) (x_dr DX6_house 17 rfl) (fun v15 s14 h => ?_)
          exact r_iret X rfl (x_dr DX6_house 18 rfl) ⟨_, rfl, h⟩
      · replace h := h.2 c5
        refine r_bipush (v := (-2)) X (x_dr DX6_house 8 rfl) (by decide) ?_
        exact r_iret X rfl (x_dr DX6_house 9 rfl) ⟨_, rfl, h⟩
set_option maxRecDepth 10000 in
theorem k6_governments {ad : xAd} {G : xG} {l : Launch} {σ : xSt} {Q : Int32 → xSt → Prop}  (h : d6_governments σ Q) : MC ad G l yX6_governments cX6_governments 1 (some .int) 4 90 [.ref (ad 0 0 0)] σ (qI Q) := by
  unfold d6_governments at h
  refine x_MC [(0, .ref (ad 0 0 0))] (by decide +kernel) rfl (Nat.le_of_ble_eq_true rfl) ?_
  intro E hG hl X
  replace X : FX ad E cX6_governments 1 RX6 (some .int) 4 90 := X
  refine r_aload_n X (x_dr DX6_governments 0 rfl) 0 rfl rfl ?_
  refine cl6_chamberAsTold X (k6_chamberAsTold h) rfl ml_6_155 ⟨Nat.le_of_ble_eq_true rfl, Nat.le_of_ble_eq_true rfl⟩ (Nat.le_of_ble_eq_true rfl) (x_dr DX6_governments 1 rfl) (fun s1 h => ?_)
  refine cl2_governmentsInAll X (k2_governmentsInAll rfl h) rfl ml_6_178 ⟨Nat.le_of_ble_eq_true rfl, Nat.le_of_ble_eq_true rfl⟩ (Nat.le_of_ble_eq_true rfl) (x_dr DX6_governments 2 rfl) (fun v3 s2 h => ?_)
  exact r_iret X rfl (x_dr DX6_governments 3 rfl) ⟨_, rfl, h⟩
set_option maxRecDepth 10000 in
theorem k6_carried {ad : xAd} {G : xG} {l : Launch} {σ : xSt} {Q : Int32 → xSt → Prop}  (h : d6_carried σ Q) : MC ad G l yX6_carried cX6_carried 1 (some .int) 4 90 [.ref (ad 0 0 0)] σ (qI Q) := by
  unfold d6_carried at h
  refine x_MC [(0, .ref (ad 0 0 0))] (by decide +kernel) rfl (Nat.le_of_ble_eq_true rfl) ?_
  intro E hG hl X
  replace X : FX ad E cX6_carried 1 RX6 (some .int) 4 90 := X
  refine r_aload_n X (x_dr DX6_carried 0 rfl) 0 rfl rfl ?_
  refine cl6_chamberAsTold X (k6_chamberAsTold h) rfl ml_6_155 ⟨Nat.le_of_ble_eq_true rfl, Nat.le_of_ble_eq_true rfl⟩ (Nat.le_of_ble_eq_true rfl) (x_dr DX6_carried 1 rfl) (fun s1 h => ?_)
  refine cl2_carriedInAll X (k2_carriedInAll rfl h) rfl ml_6_181 ⟨Nat.le_of_ble_eq_true rfl, Nat.le_of_ble_eq_true rfl⟩ (Nat.le_of_ble_eq_true rfl) (x_dr DX6_carried 2 rfl) (fun v3 s2 h => ?_)
  exact r_iret X rfl (x_dr DX6_carried 3 rfl) ⟨_, rfl, h⟩
set_option maxRecDepth 10000 in
theorem w6_findCrowd_L22 {ad : xAd} {E : xE} (X : FX ad E cX6_findCrowd 4 RX6 none 2 42) {o1 : Nat} (ho1 : x_cl o1 = 2) {a2 : Int32} {K : xSt → Prop} {Q : xSt → Prop} : ∀ (n : Nat) (a3 : Int32) (σ : xSt), d6_findCrowd_L22 o1 a2 K Q n a3 σ → (∀ (s : xSt), K  s → KK ad E (qV Q) 53 ([(0, .ref (ad 0 0 0)), (1, .ref (ad o1 0 0)), (2, .int a2)]) [] s) → KK ad E (qV Q) 22 ([(0, .ref (ad 0 0 0)), (1, .ref (ad o1 0 0)), (2, .int a2), (3, .int a3)]) [] σ := by
  intro n
  induction n with
  | zero => intro a3 σ h kk; exact h.elim
  | succ n ih =>
    intro a3 σ h kk
    rw [d6_findCrowd_L22] at h
    refine r_iload_n X (x_dr DX6_findCrowd 13 rfl) 3 rfl rfl ?_
    refine r_bipush (v := 12) X (x_dr DX6_findCrowd 14 rfl) (by decide) ?_
    refine r_icmp_ge X 53 (x_dr DX6_findCrowd 15 rfl) (by decide) (fun c3 => ?_) (fun c3 => ?_)
    · replace h := h.1 c3
      refine r_norm X [0, 1, 2] ([(0, .ref (ad 0 0 0)), (1, .ref (ad o1 0 0)), (2, .int a2)]) rfl ?_
      exact kk  _ h
    · replace h := h.2 c3
      refine r_aload_n X (x_dr DX6_findCrowd 16 rfl) 0 rfl rfl ?_
      refine gf_6_51 X rfl (x_dr DX6_findCrowd 17 rfl) ?_
      refine r_iload_n X (x_dr DX6_findCrowd 18 rfl) 2 rfl rfl ?_
      refine r_bipush (v := 12) X (x_dr DX6_findCrowd 19 rfl) (by decide) ?_
      refine r_imul X (x_dr DX6_findCrowd 20 rfl) ?_
      refine r_iload_n X (x_dr DX6_findCrowd 21 rfl) 3 rfl rfl ?_
      refine r_iadd X (x_dr DX6_findCrowd 22 rfl) ?_
      refine r_aload_n X (x_dr DX6_findCrowd 23 rfl) 1 rfl rfl ?_
      refine r_iload_n X (x_dr DX6_findCrowd 24 rfl) 2 rfl rfl ?_
      refine r_iload_n X (x_dr DX6_findCrowd 25 rfl) 3 rfl rfl ?_
      refine cl2_headsAt X (k2_headsAt ho1 h) ho1 ml_6_163 ⟨Nat.le_of_ble_eq_true rfl, Nat.le_of_ble_eq_true rfl⟩ (Nat.le_of_ble_eq_true rfl) (x_dr DX6_findCrowd 26 rfl) (fun v5 s4 h => ?_)
      refine cl0_offer X (k0_offer h) rfl ml_6_200 ⟨Nat.le_of_ble_eq_true rfl, Nat.le_of_ble_eq_true rfl⟩ (Nat.le_of_ble_eq_true rfl) (x_dr DX6_findCrowd 27 rfl) (fun s6 h => ?_)
      obtain ⟨v7, ev7⟩ : ∃ z : Int32, z = a3 + 1 := ⟨_, rfl⟩
      replace h := h v7 ev7
      refine r_iinc (v := v7) X ([(3, .int v7), (0, .ref (ad 0 0 0)), (1, .ref (ad o1 0 0)), (2, .int a2)]) 3 (x_dr DX6_findCrowd 28 rfl) rfl (by rw [ev7]; rfl) (by decide) rfl ?_
      refine r_goto X 22 (x_dr DX6_findCrowd 29 rfl) (by decide) ?_
      refine r_norm X [1, 2, 3, 0] ([(0, .ref (ad 0 0 0)), (1, .ref (ad o1 0 0)), (2, .int a2), (3, .int v7)]) rfl ?_
      exact ih _ _ h kk
set_option maxRecDepth 10000 in
theorem w6_findCrowd_L14 {ad : xAd} {E : xE} (X : FX ad E cX6_findCrowd 4 RX6 none 2 42) {o1 : Nat} (ho1 : x_cl o1 = 2) {K : xSt → Prop} {Q : xSt → Prop} : ∀ (n : Nat) (a2 : Int32) (σ : xSt), d6_findCrowd_L14 o1 K Q n a2 σ → (∀ (s : xSt), K  s → KK ad E (qV Q) 59 ([]) [] s) → KK ad E (qV Q) 14 ([(0, .ref (ad 0 0 0)), (1, .ref (ad o1 0 0)), (2, .int a2)]) [] σ := by
  intro n
  induction n with
  | zero => intro a2 σ h kk; exact h.elim
  | succ n ih =>
    intro a2 σ h kk
    rw [d6_findCrowd_L14] at h
    refine r_iload_n X (x_dr DX6_findCrowd 8 rfl) 2 rfl rfl ?_
    refine r_bipush (v := 20) X (x_dr DX6_findCrowd 9 rfl) (by decide) ?_
    refine r_icmp_ge X 59 (x_dr DX6_findCrowd 10 rfl) (by decide) (fun c2 => ?_) (fun c2 => ?_)
    · replace h := h.1 c2
      refine r_norm X [] ([]) rfl ?_
      exact kk  _ h
    · replace h := h.2 c2
      refine r_iconst (v := 0) X (x_dr DX6_findCrowd 11 rfl) (by decide) ?_
      refine r_istore_n X ([(3, .int 0), (0, .ref (ad 0 0 0)), (1, .ref (ad o1 0 0)), (2, .int a2)]) (x_dr DX6_findCrowd 12 rfl) rfl (by decide) rfl ?_
      refine r_norm X [1, 2, 3, 0] ([(0, .ref (ad 0 0 0)), (1, .ref (ad o1 0 0)), (2, .int a2), (3, .int 0)]) rfl ?_
      refine w6_findCrowd_L22 X ho1 _ _ _ h (fun s8 h => ?_)
      obtain ⟨v9, ev9⟩ : ∃ z : Int32, z = a2 + 1 := ⟨_, rfl⟩
      replace h := h v9 ev9
      refine r_iinc (v := v9) X ([(2, .int v9), (0, .ref (ad 0 0 0)), (1, .ref (ad o1 0 0))]) 2 (x_dr DX6_findCrowd 30 rfl) rfl (by rw [ev9]; rfl) (by decide) rfl ?_
      refine r_goto X 14 (x_dr DX6_findCrowd 31 rfl) (by decide) ?_
      refine r_norm X [1, 2, 0] ([(0, .ref (ad 0 0 0)), (1, .ref (ad o1 0 0)), (2, .int v9)]) rfl ?_
      exact ih _ _ h kk
set_option maxRecDepth 10000 in
theorem k6_findCrowd {ad : xAd} {G : xG} {l : Launch} {o1 : Nat} {σ : xSt} {Q : xSt → Prop} (ho1 : x_cl o1 = 2) (h : d6_findCrowd o1 σ Q) : MC ad G l yX6_findCrowd cX6_findCrowd 4 none 2 42 [.ref (ad 0 0 0), .ref (ad o1 0 0)] σ (qV Q) := by
  unfold d6_findCrowd at h
  refine x_MC [(0, .ref (ad 0 0 0)), (1, .ref (ad o1 0 0))] (by decide +kernel) rfl (Nat.le_of_ble_eq_true rfl) ?_
  intro E hG hl X
  replace X : FX ad E cX6_findCrowd 4 RX6 none 2 42 := X
  refine r_aload_n X (x_dr DX6_findCrowd 0 rfl) 0 rfl rfl ?_
  refine gf_6_51 X rfl (x_dr DX6_findCrowd 1 rfl) ?_
  refine cl0_start X (k0_start h) rfl ml_6_197 ⟨Nat.le_of_ble_eq_true rfl, Nat.le_of_ble_eq_true rfl⟩ (Nat.le_of_ble_eq_true rfl) (x_dr DX6_findCrowd 2 rfl) (fun s1 h => ?_)
  refine r_aload_n X (x_dr DX6_findCrowd 3 rfl) 1 rfl rfl ?_
  refine r_ifnonnull X 12 (x_dr DX6_findCrowd 4 rfl) (by decide) ?_
  refine r_iconst (v := 0) X (x_dr DX6_findCrowd 6 rfl) (by decide) ?_
  refine r_istore_n X ([(2, .int 0), (0, .ref (ad 0 0 0)), (1, .ref (ad o1 0 0))]) (x_dr DX6_findCrowd 7 rfl) rfl (by decide) rfl ?_
  refine r_norm X [1, 2, 0] ([(0, .ref (ad 0 0 0)), (1, .ref (ad o1 0 0)), (2, .int 0)]) rfl ?_
  refine w6_findCrowd_L14 X ho1 _ _ _ h (fun s10 h => ?_)
  exact r_vret X rfl (x_dr DX6_findCrowd 32 rfl) ⟨rfl, h⟩
set_option maxRecDepth 10000 in
theorem k6_crowd {ad : xAd} {G : xG} {l : Launch} {a1 : Int32} {σ : xSt} {Q : Int32 → xSt → Prop}  (h : d6_crowd a1 σ Q) : MC ad G l yX6_crowd cX6_crowd 2 (some .int) 4 90 [.ref (ad 0 0 0), .int a1] σ (qI Q) := by
  unfold d6_crowd at h
  refine x_MC [(0, .ref (ad 0 0 0)), (1, .int a1)] (by decide +kernel) rfl (Nat.le_of_ble_eq_true rfl) ?_
  intro E hG hl X
  replace X : FX ad E cX6_crowd 2 RX6 (some .int) 4 90 := X
  refine r_iload_n X (x_dr DX6_crowd 0 rfl) 1 rfl rfl ?_
  refine r_if_lt X 9 (x_dr DX6_crowd 1 rfl) (by decide) (fun c1 => ?_) (fun c1 => ?_)
  · replace h := h.1 c1
    refine r_bipush (v := (-2)) X (x_dr DX6_crowd 5 rfl) (by decide) ?_
    exact r_iret X rfl (x_dr DX6_crowd 6 rfl) ⟨_, rfl, h⟩
  · replace h := h.2 c1
    refine r_iload_n X (x_dr DX6_crowd 2 rfl) 1 rfl rfl ?_
    refine r_iconst (v := 2) X (x_dr DX6_crowd 3 rfl) (by decide) ?_
    refine r_icmp_le X 12 (x_dr DX6_crowd 4 rfl) (by decide) (fun c2 => ?_) (fun c2 => ?_)
    · replace h := h.1 c2
      refine r_aload_n X (x_dr DX6_crowd 7 rfl) 0 rfl rfl ?_
      refine gf_6_24 X rfl (x_dr DX6_crowd 8 rfl) ?_
      refine gf_6_184 X rfl (x_dr DX6_crowd 9 rfl) ?_
      refine r_if_ne X 24 (x_dr DX6_crowd 10 rfl) (by decide) (fun c3 => ?_) (fun c3 => ?_)
      · replace h := h.1 c3
        refine r_aload_n X (x_dr DX6_crowd 13 rfl) 0 rfl rfl ?_
        refine r_aload_n X (x_dr DX6_crowd 14 rfl) 0 rfl rfl ?_
        refine cl6_chamberAsTold X (k6_chamberAsTold h) rfl ml_6_155 ⟨Nat.le_of_ble_eq_true rfl, Nat.le_of_ble_eq_true rfl⟩ (Nat.le_of_ble_eq_true rfl) (x_dr DX6_crowd 15 rfl) (fun s4 h => ?_)
        refine cl6_findCrowd X (k6_findCrowd rfl h) rfl ml_6_187 ⟨Nat.le_of_ble_eq_true rfl, Nat.le_of_ble_eq_true rfl⟩ (Nat.le_of_ble_eq_true rfl) (x_dr DX6_crowd 16 rfl) (fun s5 h => ?_)
        refine r_iload_n X (x_dr DX6_crowd 17 rfl) 1 rfl rfl ?_
        refine r_iconst (v := 2) X (x_dr DX6_crowd 18 rfl) (by decide) ?_
        refine r_icmp_ne X 45 (x_dr DX6_crowd 19 rfl) (by decide) (fun c6 => ?_) (fun c6 => ?_)
        · replace h := h.1 c6
          refine r_iload_n X (x_dr DX6_crowd 24 rfl) 1 rfl rfl ?_
          refine r_if_ne X 62 (x_dr DX6_crowd 25 rfl) (by decide) (fun c7 => ?_) (fun c7 => ?_)
          · replace h := h.1 c7
            refine r_aload_n X (x_dr DX6_crowd 32 rfl) 0 rfl rfl ?_
            refine gf_6_51 X rfl (x_dr DX6_crowd 33 rfl) ?_
            refine gf_6_194 X rfl (x_dr DX6_crowd 34 rfl) ?_
            refine r_bipush (v := 12) X (x_dr DX6_crowd 35 rfl) (by decide) ?_
            obtain ⟨b8, h⟩ := h
            refine r_irem X (x_dr DX6_crowd 36 rfl) b8 ?_
            exact r_iret X rfl (x_dr DX6_crowd 37 rfl) ⟨_, rfl, h⟩
          · replace h := h.2 c7
            refine r_aload_n X (x_dr DX6_crowd 26 rfl) 0 rfl rfl ?_
            refine gf_6_51 X rfl (x_dr DX6_crowd 27 rfl) ?_
            refine gf_6_194 X rfl (x_dr DX6_crowd 28 rfl) ?_
            refine r_bipush (v := 12) X (x_dr DX6_crowd 29 rfl) (by decide) ?_
            obtain ⟨b9, h⟩ := h
            refine r_idiv X (x_dr DX6_crowd 30 rfl) b9 ?_
            refine r_goto X 72 (x_dr DX6_crowd 31 rfl) (by decide) ?_
            exact r_iret X rfl (x_dr DX6_crowd 37 rfl) ⟨_, rfl, h⟩
        · replace h := h.2 c6
          refine r_aload_n X (x_dr DX6_crowd 20 rfl) 0 rfl rfl ?_
          refine gf_6_51 X rfl (x_dr DX6_crowd 21 rfl) ?_
          refine gf_6_191 X rfl (x_dr DX6_crowd 22 rfl) ?_
          exact r_iret X rfl (x_dr DX6_crowd 23 rfl) ⟨_, rfl, h⟩
      · replace h := h.2 c3
        refine r_iconst (v := (-1)) X (x_dr DX6_crowd 11 rfl) (by decide) ?_
        exact r_iret X rfl (x_dr DX6_crowd 12 rfl) ⟨_, rfl, h⟩
    · replace h := h.2 c2
      refine r_bipush (v := (-2)) X (x_dr DX6_crowd 5 rfl) (by decide) ?_
      exact r_iret X rfl (x_dr DX6_crowd 6 rfl) ⟨_, rfl, h⟩
set_option maxRecDepth 10000 in
theorem w6_orator_L14 {ad : xAd} {E : xE} (X : FX ad E cX6_orator 3 RX6 (some .int) 4 90)   {K : xSt → Prop} {Q : Int32 → xSt → Prop} : ∀ (n : Nat) (a2 : Int32) (σ : xSt), d6_orator_L14 K Q n a2 σ → (∀ (s : xSt), K  s → KK ad E (qI Q) 47 ([(0, .ref (ad 0 0 0))]) [] s) → KK ad E (qI Q) 14 ([(0, .ref (ad 0 0 0)), (1, .ref (ad 5 0 0)), (2, .int a2)]) [] σ := by
  intro n
  induction n with
  | zero => intro a2 σ h kk; exact h.elim
  | succ n ih =>
    intro a2 σ h kk
    rw [d6_orator_L14] at h
    refine r_iload_n X (x_dr DX6_orator 8 rfl) 2 rfl rfl ?_
    refine r_aload_n X (x_dr DX6_orator 9 rfl) 0 rfl rfl ?_
    refine gf_6_24 X rfl (x_dr DX6_orator 10 rfl) ?_
    refine gf_6_184 X rfl (x_dr DX6_orator 11 rfl) ?_
    refine r_icmp_ge X 47 (x_dr DX6_orator 12 rfl) (by decide) (fun c3 => ?_) (fun c3 => ?_)
    · replace h := h.1 c3
      refine r_norm X [0] ([(0, .ref (ad 0 0 0))]) rfl ?_
      exact kk  _ h
    · replace h := h.2 c3
      refine r_aload_n X (x_dr DX6_orator 13 rfl) 0 rfl rfl ?_
      refine gf_6_51 X rfl (x_dr DX6_orator 14 rfl) ?_
      refine r_iload_n X (x_dr DX6_orator 15 rfl) 2 rfl rfl ?_
      refine r_aload_n X (x_dr DX6_orator 16 rfl) 1 rfl rfl ?_
      refine r_bipush (v := 19) X (x_dr DX6_orator 17 rfl) (by decide) ?_
      refine r_iload_n X (x_dr DX6_orator 18 rfl) 2 rfl rfl ?_
      refine r_iconst (v := 3) X (x_dr DX6_orator 19 rfl) (by decide) ?_
      refine cl2_ofMember X (k2_ofMember rfl h) rfl ml_6_166 ⟨Nat.le_of_ble_eq_true rfl, Nat.le_of_ble_eq_true rfl⟩ (Nat.le_of_ble_eq_true rfl) (x_dr DX6_orator 20 rfl) (fun v5 s4 h => ?_)
      refine cl0_offer X (k0_offer h) rfl ml_6_200 ⟨Nat.le_of_ble_eq_true rfl, Nat.le_of_ble_eq_true rfl⟩ (Nat.le_of_ble_eq_true rfl) (x_dr DX6_orator 21 rfl) (fun s6 h => ?_)
      obtain ⟨v7, ev7⟩ : ∃ z : Int32, z = a2 + 1 := ⟨_, rfl⟩
      replace h := h v7 ev7
      refine r_iinc (v := v7) X ([(2, .int v7), (0, .ref (ad 0 0 0)), (1, .ref (ad 5 0 0))]) 2 (x_dr DX6_orator 22 rfl) rfl (by rw [ev7]; rfl) (by decide) rfl ?_
      refine r_goto X 14 (x_dr DX6_orator 23 rfl) (by decide) ?_
      refine r_norm X [1, 2, 0] ([(0, .ref (ad 0 0 0)), (1, .ref (ad 5 0 0)), (2, .int v7)]) rfl ?_
      exact ih _ _ h kk
set_option maxRecDepth 10000 in
theorem k6_orator {ad : xAd} {G : xG} {l : Launch} {σ : xSt} {Q : Int32 → xSt → Prop}  (h : d6_orator σ Q) : MC ad G l yX6_orator cX6_orator 3 (some .int) 4 90 [.ref (ad 0 0 0)] σ (qI Q) := by
  unfold d6_orator at h
  refine x_MC [(0, .ref (ad 0 0 0))] (by decide +kernel) rfl (Nat.le_of_ble_eq_true rfl) ?_
  intro E hG hl X
  replace X : FX ad E cX6_orator 3 RX6 (some .int) 4 90 := X
  refine r_aload_n X (x_dr DX6_orator 0 rfl) 0 rfl rfl ?_
  refine cl6_chamberAsTold X (k6_chamberAsTold h) rfl ml_6_155 ⟨Nat.le_of_ble_eq_true rfl, Nat.le_of_ble_eq_true rfl⟩ (Nat.le_of_ble_eq_true rfl) (x_dr DX6_orator 1 rfl) (fun s1 h => ?_)
  refine r_astore_n X ([(1, .ref (ad 5 0 0)), (0, .ref (ad 0 0 0))]) (x_dr DX6_orator 2 rfl) rfl (by decide) rfl ?_
  refine r_aload_n X (x_dr DX6_orator 3 rfl) 1 rfl rfl ?_
  refine gf_6_51 X rfl (x_dr DX6_orator 4 rfl) ?_
  refine cl0_start X (k0_start h) rfl ml_6_197 ⟨Nat.le_of_ble_eq_true rfl, Nat.le_of_ble_eq_true rfl⟩ (Nat.le_of_ble_eq_true rfl) (x_dr DX6_orator 5 rfl) (fun s2 h => ?_)
  refine r_iconst (v := 0) X (x_dr DX6_orator 6 rfl) (by decide) ?_
  refine r_istore_n X ([(2, .int 0), (1, .ref (ad 5 0 0)), (0, .ref (ad 0 0 0))]) (x_dr DX6_orator 7 rfl) rfl (by decide) rfl ?_
  refine r_norm X [2, 1, 0] ([(0, .ref (ad 0 0 0)), (1, .ref (ad 5 0 0)), (2, .int 0)]) rfl ?_
  refine w6_orator_L14 X  _ _ _ h (fun s8 h => ?_)
  refine r_aload_n X (x_dr DX6_orator 24 rfl) 0 rfl rfl ?_
  refine gf_6_51 X rfl (x_dr DX6_orator 25 rfl) ?_
  refine gf_6_194 X rfl (x_dr DX6_orator 26 rfl) ?_
  exact r_iret X rfl (x_dr DX6_orator 27 rfl) ⟨_, rfl, h⟩
set_option maxRecDepth 10000 in
theorem k6_still {ad : xAd} {G : xG} {l : Launch} {σ : xSt} {Q : Int32 → xSt → Prop}  (h : d6_still σ Q) : MC ad G l yX6_still cX6_still 1 (some .int) 4 90 [.ref (ad 0 0 0)] σ (qI Q) := by
  unfold d6_still at h
  refine x_MC [(0, .ref (ad 0 0 0))] (by decide +kernel) rfl (Nat.le_of_ble_eq_true rfl) ?_
  intro E hG hl X
  replace X : FX ad E cX6_still 1 RX6 (some .int) 4 90 := X
  refine r_aload_n X (x_dr DX6_still 0 rfl) 0 rfl rfl ?_
  refine cl6_chamberAsTold X (k6_chamberAsTold h) rfl ml_6_155 ⟨Nat.le_of_ble_eq_true rfl, Nat.le_of_ble_eq_true rfl⟩ (Nat.le_of_ble_eq_true rfl) (x_dr DX6_still 1 rfl) (fun s1 h => ?_)
  refine cl2_stillMembers X (k2_stillMembers rfl h) rfl ml_6_204 ⟨Nat.le_of_ble_eq_true rfl, Nat.le_of_ble_eq_true rfl⟩ (Nat.le_of_ble_eq_true rfl) (x_dr DX6_still 2 rfl) (fun v3 s2 h => ?_)
  exact r_iret X rfl (x_dr DX6_still 3 rfl) ⟨_, rfl, h⟩
set_option maxRecDepth 10000 in
theorem w6_findSeat_L20 {ad : xAd} {E : xE} (X : FX ad E cX6_findSeat 3 RX6 none 3 70)   {a1 : Int32} {K : xSt → Prop} {Q : xSt → Prop} : ∀ (n : Nat) (a2 : Int32) (σ : xSt), d6_findSeat_L20 a1 K Q n a2 σ → (∀ (s : xSt), K  s → KK ad E (qV Q) 69 ([]) [] s) → KK ad E (qV Q) 20 ([(0, .ref (ad 0 0 0)), (1, .int a1), (2, .int a2)]) [] σ := by
  intro n
  induction n with
  | zero => intro a2 σ h kk; exact h.elim
  | succ n ih =>
    intro a2 σ h kk
    rw [d6_findSeat_L20] at h
    refine r_iload_n X (x_dr DX6_findSeat 10 rfl) 2 rfl rfl ?_
    refine r_bipush (v := 12) X (x_dr DX6_findSeat 11 rfl) (by decide) ?_
    refine r_icmp_ge X 69 (x_dr DX6_findSeat 12 rfl) (by decide) (fun c3 => ?_) (fun c3 => ?_)
    · replace h := h.1 c3
      refine r_norm X [] ([]) rfl ?_
      exact kk  _ h
    · replace h := h.2 c3
      refine r_aload_n X (x_dr DX6_findSeat 13 rfl) 0 rfl rfl ?_
      refine gf_6_28 X rfl (x_dr DX6_findSeat 14 rfl) ?_
      refine r_iload_n X (x_dr DX6_findSeat 15 rfl) 1 rfl rfl ?_
      refine r_iload_n X (x_dr DX6_findSeat 16 rfl) 2 rfl rfl ?_
      refine cl1_setPlace X (k1_setPlace rfl h) rfl ml_6_349 ⟨Nat.le_of_ble_eq_true rfl, Nat.le_of_ble_eq_true rfl⟩ (Nat.le_of_ble_eq_true rfl) (x_dr DX6_findSeat 17 rfl) (fun s4 h => ?_)
      refine r_aload_n X (x_dr DX6_findSeat 18 rfl) 0 rfl rfl ?_
      refine gf_6_38 X rfl (x_dr DX6_findSeat 19 rfl) ?_
      refine r_aload_n X (x_dr DX6_findSeat 20 rfl) 0 rfl rfl ?_
      refine gf_6_28 X rfl (x_dr DX6_findSeat 21 rfl) ?_
      refine r_bipush (v := 20) X (x_dr DX6_findSeat 22 rfl) (by decide) ?_
      refine cl2_sit X (k2_sit rfl rfl h) rfl ml_6_241 ⟨Nat.le_of_ble_eq_true rfl, Nat.le_of_ble_eq_true rfl⟩ (Nat.le_of_ble_eq_true rfl) (x_dr DX6_findSeat 23 rfl) (fun s5 h => ?_)
      refine r_aload_n X (x_dr DX6_findSeat 24 rfl) 0 rfl rfl ?_
      refine gf_6_51 X rfl (x_dr DX6_findSeat 25 rfl) ?_
      refine r_iload_n X (x_dr DX6_findSeat 26 rfl) 2 rfl rfl ?_
      refine r_aload_n X (x_dr DX6_findSeat 27 rfl) 0 rfl rfl ?_
      refine gf_6_38 X rfl (x_dr DX6_findSeat 28 rfl) ?_
      refine cl2_carriedInAll X (k2_carriedInAll rfl h) rfl ml_6_181 ⟨Nat.le_of_ble_eq_true rfl, Nat.le_of_ble_eq_true rfl⟩ (Nat.le_of_ble_eq_true rfl) (x_dr DX6_findSeat 29 rfl) (fun v7 s6 h => ?_)
      refine cl0_offer X (k0_offer h) rfl ml_6_200 ⟨Nat.le_of_ble_eq_true rfl, Nat.le_of_ble_eq_true rfl⟩ (Nat.le_of_ble_eq_true rfl) (x_dr DX6_findSeat 30 rfl) (fun s8 h => ?_)
      obtain ⟨v9, ev9⟩ : ∃ z : Int32, z = a2 + 1 := ⟨_, rfl⟩
      replace h := h v9 ev9
      refine r_iinc (v := v9) X ([(2, .int v9), (0, .ref (ad 0 0 0)), (1, .int a1)]) 2 (x_dr DX6_findSeat 31 rfl) rfl (by rw [ev9]; rfl) (by decide) rfl ?_
      refine r_goto X 20 (x_dr DX6_findSeat 32 rfl) (by decide) ?_
      refine r_norm X [1, 2, 0] ([(0, .ref (ad 0 0 0)), (1, .int a1), (2, .int v9)]) rfl ?_
      exact ih _ _ h kk
set_option maxRecDepth 10000 in
theorem k6_findSeat {ad : xAd} {G : xG} {l : Launch} {a1 : Int32} {σ : xSt} {Q : xSt → Prop}  (h : d6_findSeat a1 σ Q) : MC ad G l yX6_findSeat cX6_findSeat 3 none 3 70 [.ref (ad 0 0 0), .int a1] σ (qV Q) := by
  unfold d6_findSeat at h
  refine x_MC [(0, .ref (ad 0 0 0)), (1, .int a1)] (by decide +kernel) rfl (Nat.le_of_ble_eq_true rfl) ?_
  intro E hG hl X
  replace X : FX ad E cX6_findSeat 3 RX6 none 3 70 := X
  refine r_aload_n X (x_dr DX6_findSeat 0 rfl) 0 rfl rfl ?_
  refine gf_6_51 X rfl (x_dr DX6_findSeat 1 rfl) ?_
  refine cl0_start X (k0_start h) rfl ml_6_197 ⟨Nat.le_of_ble_eq_true rfl, Nat.le_of_ble_eq_true rfl⟩ (Nat.le_of_ble_eq_true rfl) (x_dr DX6_findSeat 2 rfl) (fun s1 h => ?_)
  refine r_aload_n X (x_dr DX6_findSeat 3 rfl) 0 rfl rfl ?_
  refine gf_6_28 X rfl (x_dr DX6_findSeat 4 rfl) ?_
  refine r_aload_n X (x_dr DX6_findSeat 5 rfl) 0 rfl rfl ?_
  refine gf_6_24 X rfl (x_dr DX6_findSeat 6 rfl) ?_
  refine cl1_takeAll X (k1_takeAll rfl rfl h) rfl ml_6_233 ⟨Nat.le_of_ble_eq_true rfl, Nat.le_of_ble_eq_true rfl⟩ (Nat.le_of_ble_eq_true rfl) (x_dr DX6_findSeat 7 rfl) (fun s2 h => ?_)
  refine r_iconst (v := 0) X (x_dr DX6_findSeat 8 rfl) (by decide) ?_
  refine r_istore_n X ([(2, .int 0), (0, .ref (ad 0 0 0)), (1, .int a1)]) (x_dr DX6_findSeat 9 rfl) rfl (by decide) rfl ?_
  refine r_norm X [1, 2, 0] ([(0, .ref (ad 0 0 0)), (1, .int a1), (2, .int 0)]) rfl ?_
  refine w6_findSeat_L20 X  _ _ _ h (fun s10 h => ?_)
  exact r_vret X rfl (x_dr DX6_findSeat 33 rfl) ⟨rfl, h⟩
set_option maxRecDepth 10000 in
theorem k6_seat {ad : xAd} {G : xG} {l : Launch} {a1 : Int32} {a2 : Int32} {σ : xSt} {Q : Int32 → xSt → Prop}  (h : d6_seat a1 a2 σ Q) : MC ad G l yX6_seat cX6_seat 3 (some .int) 4 92 [.ref (ad 0 0 0), .int a1, .int a2] σ (qI Q) := by
  unfold d6_seat at h
  refine x_MC [(0, .ref (ad 0 0 0)), (1, .int a1), (2, .int a2)] (by decide +kernel) rfl (Nat.le_of_ble_eq_true rfl) ?_
  intro E hG hl X
  replace X : FX ad E cX6_seat 3 RX6 (some .int) 4 92 := X
  refine r_aload_n X (x_dr DX6_seat 0 rfl) 0 rfl rfl ?_
  refine gf_6_24 X rfl (x_dr DX6_seat 1 rfl) ?_
  refine r_iload_n X (x_dr DX6_seat 2 rfl) 1 rfl rfl ?_
  refine cl1_hasMember X (k1_hasMember rfl h) rfl ml_6_109 ⟨Nat.le_of_ble_eq_true rfl, Nat.le_of_ble_eq_true rfl⟩ (Nat.le_of_ble_eq_true rfl) (x_dr DX6_seat 3 rfl) (fun v2 s1 zv2 h => ?_)
  refine r_if_eq X 20 (x_dr DX6_seat 4 rfl) (by decide) (fun c3 => ?_) (fun c3 => ?_)
  · replace h := h.1 c3
    refine r_bipush (v := (-2)) X (x_dr DX6_seat 10 rfl) (by decide) ?_
    exact r_iret X rfl (x_dr DX6_seat 11 rfl) ⟨_, rfl, h⟩
  · replace h := h.2 c3
    refine r_iload_n X (x_dr DX6_seat 5 rfl) 2 rfl rfl ?_
    refine r_if_lt X 20 (x_dr DX6_seat 6 rfl) (by decide) (fun c4 => ?_) (fun c4 => ?_)
    · replace h := h.1 c4
      refine r_bipush (v := (-2)) X (x_dr DX6_seat 10 rfl) (by decide) ?_
      exact r_iret X rfl (x_dr DX6_seat 11 rfl) ⟨_, rfl, h⟩
    · replace h := h.2 c4
      refine r_iload_n X (x_dr DX6_seat 7 rfl) 2 rfl rfl ?_
      refine r_iconst (v := 1) X (x_dr DX6_seat 8 rfl) (by decide) ?_
      refine r_icmp_le X 23 (x_dr DX6_seat 9 rfl) (by decide) (fun c5 => ?_) (fun c5 => ?_)
      · replace h := h.1 c5
        refine r_aload_n X (x_dr DX6_seat 12 rfl) 0 rfl rfl ?_
        refine r_iload_n X (x_dr DX6_seat 13 rfl) 1 rfl rfl ?_
        refine cl6_findSeat X (k6_findSeat h) rfl ml_6_207 ⟨Nat.le_of_ble_eq_true rfl, Nat.le_of_ble_eq_true rfl⟩ (Nat.le_of_ble_eq_true rfl) (x_dr DX6_seat 14 rfl) (fun s6 h => ?_)
        refine r_iload_n X (x_dr DX6_seat 15 rfl) 2 rfl rfl ?_
        refine r_if_ne X 42 (x_dr DX6_seat 16 rfl) (by decide) (fun c7 => ?_) (fun c7 => ?_)
        · replace h := h.1 c7
          refine r_aload_n X (x_dr DX6_seat 21 rfl) 0 rfl rfl ?_
          refine gf_6_51 X rfl (x_dr DX6_seat 22 rfl) ?_
          refine gf_6_191 X rfl (x_dr DX6_seat 23 rfl) ?_
          exact r_iret X rfl (x_dr DX6_seat 24 rfl) ⟨_, rfl, h⟩
        · replace h := h.2 c7
          refine r_aload_n X (x_dr DX6_seat 17 rfl) 0 rfl rfl ?_
          refine gf_6_51 X rfl (x_dr DX6_seat 18 rfl) ?_
          refine gf_6_194 X rfl (x_dr DX6_seat 19 rfl) ?_
          refine r_goto X 49 (x_dr DX6_seat 20 rfl) (by decide) ?_
          exact r_iret X rfl (x_dr DX6_seat 24 rfl) ⟨_, rfl, h⟩
      · replace h := h.2 c5
        refine r_bipush (v := (-2)) X (x_dr DX6_seat 10 rfl) (by decide) ?_
        exact r_iret X rfl (x_dr DX6_seat 11 rfl) ⟨_, rfl, h⟩
set_option maxRecDepth 10000 in
theorem k6_sitWithOneMore {ad : xAd} {G : xG} {l : Launch} {a1 : Int32} {a2 : Int32} {a3 : Int32} {σ : xSt} {Q : xSt → Prop}  (h : d6_sitWithOneMore a1 a2 a3 σ Q) : MC ad G l yX6_sitWithOneMore cX6_sitWithOneMore 4 none 3 70 [.ref (ad 0 0 0), .int a1, .int a2, .int a3] σ (qV Q) := by
  unfold d6_sitWithOneMore at h
  refine x_MC [(0, .ref (ad 0 0 0)), (1, .int a1), (2, .int a2), (3, .int a3)] (by decide +kernel) rfl (Nat.le_of_ble_eq_true rfl) ?_
  intro E hG hl X
  replace X : FX ad E cX6_sitWithOneMore 4 RX6 none 3 70 := X
  refine r_aload_n X (x_dr DX6_sitWithOneMore 0 rfl) 0 rfl rfl ?_
  refine gf_6_28 X rfl (x_dr DX6_sitWithOneMore 1 rfl) ?_
  refine r_aload_n X (x_dr DX6_sitWithOneMore 2 rfl) 0 rfl rfl ?_
  refine gf_6_24 X rfl (x_dr DX6_sitWithOneMore 3 rfl) ?_
  refine cl1_takeAll X (k1_takeAll rfl rfl h) rfl ml_6_233 ⟨Nat.le_of_ble_eq_true rfl, Nat.le_of_ble_eq_true rfl⟩ (Nat.le_of_ble_eq_true rfl) (x_dr DX6_sitWithOneMore 4 rfl) (fun s1 h => ?_)
  refine r_aload_n X (x_dr DX6_sitWithOneMore 5 rfl) 0 rfl rfl ?_
  refine gf_6_28 X rfl (x_dr DX6_sitWithOneMore 6 rfl) ?_
  refine r_iload_n X (x_dr DX6_sitWithOneMore 7 rfl) 1 rfl rfl ?_
  refine r_iload_n X (x_dr DX6_sitWithOneMore 8 rfl) 2 rfl rfl ?_
  refine r_iload_n X (x_dr DX6_sitWithOneMore 9 rfl) 3 rfl rfl ?_
  refine cl1_addEvent X (k1_addEvent rfl h) rfl ml_6_128 ⟨Nat.le_of_ble_eq_true rfl, Nat.le_of_ble_eq_true rfl⟩ (Nat.le_of_ble_eq_true rfl) (x_dr DX6_sitWithOneMore 10 rfl) (fun s2 h => ?_)
  refine r_aload_n X (x_dr DX6_sitWithOneMore 11 rfl) 0 rfl rfl ?_
  refine gf_6_38 X rfl (x_dr DX6_sitWithOneMore 12 rfl) ?_
  refine r_aload_n X (x_dr DX6_sitWithOneMore 13 rfl) 0 rfl rfl ?_
  refine gf_6_28 X rfl (x_dr DX6_sitWithOneMore 14 rfl) ?_
  refine r_bipush (v := 20) X (x_dr DX6_sitWithOneMore 15 rfl) (by decide) ?_
  refine cl2_sit X (k2_sit rfl rfl h) rfl ml_6_241 ⟨Nat.le_of_ble_eq_true rfl, Nat.le_of_ble_eq_true rfl⟩ (Nat.le_of_ble_eq_true rfl) (x_dr DX6_sitWithOneMore 16 rfl) (fun s3 h => ?_)
  exact r_vret X rfl (x_dr DX6_sitWithOneMore 17 rfl) ⟨rfl, h⟩
set_option maxRecDepth 10000 in
theorem w6_findDust_L9 {ad : xAd} {E : xE} (X : FX ad E cX6_findDust 3 RX6 none 4 93)   {a1 : Int32} {K : xSt → Prop} {Q : xSt → Prop} : ∀ (n : Nat) (a2 : Int32) (σ : xSt), d6_findDust_L9 a1 K Q n a2 σ → (∀ (s : xSt), K  s → KK ad E (qV Q) 43 ([]) [] s) → KK ad E (qV Q) 9 ([(0, .ref (ad 0 0 0)), (1, .int a1), (2, .int a2)]) [] σ := by
  intro n
  induction n with
  | zero => intro a2 σ h kk; exact h.elim
  | succ n ih =>
    intro a2 σ h kk
    rw [d6_findDust_L9] at h
    refine r_iload_n X (x_dr DX6_findDust 5 rfl) 2 rfl rfl ?_
    refine r_bipush (v := 12) X (x_dr DX6_findDust 6 rfl) (by decide) ?_
    refine r_icmp_ge X 43 (x_dr DX6_findDust 7 rfl) (by decide) (fun c2 => ?_) (fun c2 => ?_)
    · replace h := h.1 c2
      refine r_norm X [] ([]) rfl ?_
      exact kk  _ h
    · replace h := h.2 c2
      refine r_aload_n X (x_dr DX6_findDust 8 rfl) 0 rfl rfl ?_
      refine r_iconst (v := 1) X (x_dr DX6_findDust 9 rfl) (by decide) ?_
      refine r_iload_n X (x_dr DX6_findDust 10 rfl) 1 rfl rfl ?_
      refine r_iload_n X (x_dr DX6_findDust 11 rfl) 2 rfl rfl ?_
      refine cl6_sitWithOneMore X (k6_sitWithOneMore h) rfl ml_6_352 ⟨Nat.le_of_ble_eq_true rfl, Nat.le_of_ble_eq_true rfl⟩ (Nat.le_of_ble_eq_true rfl) (x_dr DX6_findDust 12 rfl) (fun s3 h => ?_)
      refine r_aload_n X (x_dr DX6_findDust 13 rfl) 0 rfl rfl ?_
      refine gf_6_51 X rfl (x_dr DX6_findDust 14 rfl) ?_
      refine r_iload_n X (x_dr DX6_findDust 15 rfl) 2 rfl rfl ?_
      refine r_aload_n X (x_dr DX6_findDust 16 rfl) 0 rfl rfl ?_
      refine gf_6_38 X rfl (x_dr DX6_findDust 17 rfl) ?_
      refine cl2_carriedInAll X (k2_carriedInAll rfl h) rfl ml_6_181 ⟨Nat.le_of_ble_eq_true rfl, Nat.le_of_ble_eq_true rfl⟩ (Nat.le_of_ble_eq_true rfl) (x_dr DX6_findDust 18 rfl) (fun v5 s4 h => ?_)
      refine cl0_offer X (k0_offer h) rfl ml_6_200 ⟨Nat.le_of_ble_eq_true rfl, Nat.le_of_ble_eq_true rfl⟩ (Nat.le_of_ble_eq_true rfl) (x_dr DX6_findDust 19 rfl) (fun s6 h => ?_)
      obtain ⟨v7, ev7⟩ : ∃ z : Int32, z = a2 + 1 := ⟨_, rfl⟩
      replace h := h v7 ev7
      refine r_iinc (v := v7) X ([(2, .int v7), (0, .ref (ad 0 0 0)), (1, .int a1)]) 2 (x_dr DX6_findDust 20 rfl) rfl (by rw [ev7]; rfl) (by decide) rfl ?_
      refine r_goto X 9 (x_dr DX6_findDust 21 rfl) (by decide) ?_
      refine r_norm X [1, 2, 0] ([(0, .ref (ad 0 0 0)), (1, .int a1), (2, .int v7)]) rfl ?_
      exact ih _ _ h kk
set_option maxRecDepth 10000 in
theorem k6_findDust {ad : xAd} {G : xG} {l : Launch} {a1 : Int32} {σ : xSt} {Q : xSt → Prop}  (h : d6_findDust a1 σ Q) : MC ad G l yX6_findDust cX6_findDust 3 none 4 93 [.ref (ad 0 0 0), .int a1] σ (qV Q) := by
  unfold d6_findDust at h
  refine x_MC [(0, .ref (ad 0 0 0)), (1, .int a1)] (by decide +kernel) rfl (Nat.le_of_ble_eq_true rfl) ?_
  intro E hG hl X
  replace X : FX ad E cX6_findDust 3 RX6 none 4 93 := X
  refine r_aload_n X (x_dr DX6_findDust 0 rfl) 0 rfl rfl ?_
  refine gf_6_51 X rfl (x_dr DX6_findDust 1 rfl) ?_
  refine cl0_start X (k0_start h) rfl ml_6_197 ⟨Nat.le_of_ble_eq_true rfl, Nat.le_of_ble_eq_true rfl⟩ (Nat.le_of_ble_eq_true rfl) (x_dr DX6_findDust 2 rfl) (fun s1 h => ?_)
  refine r_iconst (v := 0) X (x_dr DX6_findDust 3 rfl) (by decide) ?_
  refine r_istore_n X ([(2, .int 0), (0, .ref (ad 0 0 0)), (1, .int a1)]) (x_dr DX6_findDust 4 rfl) rfl (by decide) rfl ?_
  refine r_norm X [1, 2, 0] ([(0, .ref (ad 0 0 0)), (1, .int a1), (2, .int 0)]) rfl ?_
  refine w6_findDust_L9 X  _ _ _ h (fun s8 h => ?_)
  exact r_vret X rfl (x_dr DX6_findDust 22 rfl) ⟨rfl, h⟩
set_option maxRecDepth 10000 in
theorem k6_dust {ad : xAd} {G : xG} {l : Launch} {a1 : Int32} {a2 : Int32} {σ : xSt} {Q : Int32 → xSt → Prop}  (h : d6_dust a1 a2 σ Q) : MC ad G l yX6_dust cX6_dust 3 (some .int) 5 115 [.ref (ad 0 0 0), .int a1, .int a2] σ (qI Q) := by
  unfold d6_dust at h
  refine x_MC [(0, .ref (ad 0 0 0)), (1, .int a1), (2, .int a2)] (by decide +kernel) rfl (Nat.le_of_ble_eq_true rfl) ?_
  intro E hG hl X
  replace X : FX ad E cX6_dust 3 RX6 (some .int) 5 115 := X
  refine r_iload_n X (x_dr DX6_dust 0 rfl) 1 rfl rfl ?_
  refine cl6_isHour X (k6_isHour h) ml_6_121 ⟨Nat.le_of_ble_eq_true rfl, Nat.le_of_ble_eq_true rfl⟩ (Nat.le_of_ble_eq_true rfl) (x_dr DX6_dust 1 rfl) (fun v2 s1 zv2 h => ?_)
  refine r_if_eq X 16 (x_dr DX6_dust 2 rfl) (by decide) (fun c3 => ?_) (fun c3 => ?_)
  · replace h := h.1 c3
    refine r_bipush (v := (-2)) X (x_dr DX6_dust 8 rfl) (by decide) ?_
    exact r_iret X rfl (x_dr DX6_dust 9 rfl) ⟨_, rfl, h⟩
  · replace h := h.2 c3
    refine r_iload_n X (x_dr DX6_dust 3 rfl) 2 rfl rfl ?_
    refine r_if_lt X 16 (x_dr DX6_dust 4 rfl) (by decide) (fun c4 => ?_) (fun c4 => ?_)
    · replace h := h.1 c4
      refine r_bipush (v := (-2)) X (x_dr DX6_dust 8 rfl) (by decide) ?_
      exact r_iret X rfl (x_dr DX6_dust 9 rfl) ⟨_, rfl, h⟩
    · replace h := h.2 c4
      refine r_iload_n X (x_dr DX6_dust 5 rfl) 2 rfl rfl ?_
      refine r_iconst (v := 1) X (x_dr DX6_dust 6 rfl) (by decide) ?_
      refine r_icmp_le X 19 (x_dr DX6_dust 7 rfl) (by decide) (fun c5 => ?_) (fun c5 => ?_)
      · replace h := h.1 c5
        refine r_aload_n X (x_dr DX6_dust 10 rfl) 0 rfl rfl ?_
        refine r_iload_n X (x_dr DX6_dust 11 rfl) 1 rfl rfl ?_
        refine cl6_findDust X (k6_findDust h) rfl ml_6_210 ⟨Nat.le_of_ble_eq_true rfl, Nat.le_of_ble_eq_true rfl⟩ (Nat.le_of_ble_eq_true rfl) (x_dr DX6_dust 12 rfl) (fun s6 h => ?_)
        refine r_iload_n X (x_dr DX6_dust 13 rfl) 2 rfl rfl ?_
        refine r_if_ne X 38 (x_dr DX6_dust 14 rfl) (by decide) (fun c7 => ?_) (fun c7 => ?_)
        · replace h := h.1 c7
          refine r_aload_n X (x_dr DX6_dust 19 rfl) 0 rfl rfl ?_
          refine gf_6_51 X rfl (x_dr DX6_dust 20 rfl) ?_
          refine gf_6_191 X rfl (x_dr DX6_dust 21 rfl) ?_
          exact r_iret X rfl (x_dr DX6_dust 22 rfl) ⟨_, rfl, h⟩
        · replace h := h.2 c7
          refine r_aload_n X (x_dr DX6_dust 15 rfl) 0 rfl rfl ?_
          refine gf_6_51 X rfl (x_dr DX6_dust 16 rfl) ?_
          refine gf_6_194 X rfl (x_dr DX6_dust 17 rfl) ?_
          refine r_goto X 45 (x_dr DX6_dust 18 rfl) (by decide) ?_
          exact r_iret X rfl (x_dr DX6_dust 22 rfl) ⟨_, rfl, h⟩
      · replace h := h.2 c5
        refine r_bipush (v := (-2)) X (x_dr DX6_dust 8 rfl) (by decide) ?_
        exact r_iret X rfl (x_dr DX6_dust 9 rfl) ⟨_, rfl, h⟩
set_option maxRecDepth 10000 in
theorem w6_findBoy_L9 {ad : xAd} {E : xE} (X : FX ad E cX6_findBoy 2 RX6 none 4 93)   {K : xSt → Prop} {Q : xSt → Prop} : ∀ (n : Nat) (a1 : Int32) (σ : xSt), d6_findBoy_L9 K Q n a1 σ → (∀ (s : xSt), K  s → KK ad E (qV Q) 43 ([]) [] s) → KK ad E (qV Q) 9 ([(0, .ref (ad 0 0 0)), (1, .int a1)]) [] σ := by
  intro n
  induction n with
  | zero => intro a1 σ h kk; exact h.elim
  | succ n ih =>
    intro a1 σ h kk
    rw [d6_findBoy_L9] at h
    refine r_iload_n X (x_dr DX6_findBoy 5 rfl) 1 rfl rfl ?_
    refine r_bipush (v := 20) X (x_dr DX6_findBoy 6 rfl) (by decide) ?_
    refine r_icmp_ge X 43 (x_dr DX6_findBoy 7 rfl) (by decide) (fun c2 => ?_) (fun c2 => ?_)
    · replace h := h.1 c2
      refine r_norm X [] ([]) rfl ?_
      exact kk  _ h
    · replace h := h.2 c2
      refine r_aload_n X (x_dr DX6_findBoy 8 rfl) 0 rfl rfl ?_
      refine r_iconst (v := 0) X (x_dr DX6_findBoy 9 rfl) (by decide) ?_
      refine r_iload_n X (x_dr DX6_findBoy 10 rfl) 1 rfl rfl ?_
      refine r_iconst (v := 0) X (x_dr DX6_findBoy 11 rfl) (by decide) ?_
      refine cl6_sitWithOneMore X (k6_sitWithOneMore h) rfl ml_6_352 ⟨Nat.le_of_ble_eq_true rfl, Nat.le_of_ble_eq_true rfl⟩ (Nat.le_of_ble_eq_true rfl) (x_dr DX6_findBoy 12 rfl) (fun s3 h => ?_)
      refine r_aload_n X (x_dr DX6_findBoy 13 rfl) 0 rfl rfl ?_
      refine gf_6_51 X rfl (x_dr DX6_findBoy 14 rfl) ?_
      refine r_iload_n X (x_dr DX6_findBoy 15 rfl) 1 rfl rfl ?_
      refine r_aload_n X (x_dr DX6_findBoy 16 rfl) 0 rfl rfl ?_
      refine gf_6_38 X rfl (x_dr DX6_findBoy 17 rfl) ?_
      refine cl2_governmentsInAll X (k2_governmentsInAll rfl h) rfl ml_6_178 ⟨Nat.le_of_ble_eq_true rfl, Nat.le_of_ble_eq_true rfl⟩ (Nat.le_of_ble_eq_true rfl) (x_dr DX6_findBoy 18 rfl) (fun v5 s4 h => ?_)
      refine cl0_offer X (k0_offer h) rfl ml_6_200 ⟨Nat.le_of_ble_eq_true rfl, Nat.le_of_ble_eq_true rfl⟩ (Nat.le_of_ble_eq_true rfl) (x_dr DX6_findBoy 19 rfl) (fun s6 h => ?_)
      obtain ⟨v7, ev7⟩ : ∃ z : Int32, z = a1 + 1 := ⟨_, rfl⟩
      replace h := h v7 ev7
      refine r_iinc (v := v7) X ([(1, .int v7), (0, .ref (ad 0 0 0))]) 1 (x_dr DX6_findBoy 20 rfl) rfl (by rw [ev7]; rfl) (by decide) rfl ?_
      refine r_goto X 9 (x_dr DX6_findBoy 21 rfl) (by decide) ?_
      refine r_norm X [1, 0] ([(0, .ref (ad 0 0 0)), (1, .int v7)]) rfl ?_
      exact ih _ _ h kk
set_option maxRecDepth 10000 in
theorem k6_findBoy {ad : xAd} {G : xG} {l : Launch} {σ : xSt} {Q : xSt → Prop}  (h : d6_findBoy σ Q) : MC ad G l yX6_findBoy cX6_findBoy 2 none 4 93 [.ref (ad 0 0 0)] σ (qV Q) := by
  unfold d6_findBoy at h
  refine x_MC [(0, .ref (ad 0 0 0))] (by decide +kernel) rfl (Nat.le_of_ble_eq_true rfl) ?_
  intro E hG hl X
  replace X : FX ad E cX6_findBoy 2 RX6 none 4 93 := X
  refine r_aload_n X (x_dr DX6_findBoy 0 rfl) 0 rfl rfl ?_
  refine gf_6_51 X rfl (x_dr DX6_findBoy 1 rfl) ?_
  refine cl0_start X (k0_start h) rfl ml_6_197 ⟨Nat.le_of_ble_eq_true rfl, Nat.le_of_ble_eq_true rfl⟩ (Nat.le_of_ble_eq_true rfl) (x_dr DX6_findBoy 2 rfl) (fun s1 h => ?_)
  refine r_iconst (v := 0) X (x_dr DX6_findBoy 3 rfl) (by decide) ?_
  refine r_istore_n X ([(1, .int 0), (0, .ref (ad 0 0 0))]) (x_dr DX6_findBoy 4 rfl) rfl (by decide) rfl ?_
  refine r_norm X [1, 0] ([(0, .ref (ad 0 0 0)), (1, .int 0)]) rfl ?_
  refine w6_findBoy_L9 X  _ _ _ h (fun s8 h => ?_)
  exact r_vret X rfl (x_dr DX6_findBoy 22 rfl) ⟨rfl, h⟩
set_option maxRecDepth 10000 in
theorem k6_boy {ad : xAd} {G : xG} {l : Launch} {a1 : Int32} {σ : xSt} {Q : Int32 → xSt → Prop}  (h : d6_boy a1 σ Q) : MC ad G l yX6_boy cX6_boy 2 (some .int) 5 114 [.ref (ad 0 0 0), .int a1] σ (qI Q) := by
  unfold d6_boy at h
  refine x_MC [(0, .ref (ad 0 0 0)), (1, .int a1)] (by decide +kernel) rfl (Nat.le_of_ble_eq_true rfl) ?_
  intro E hG hl X
  replace X : FX ad E cX6_boy 2 RX6 (some .int) 5 114 := X
  refine r_iload_n X (x_dr DX6_boy 0 rfl) 1 rfl rfl ?_
  refine r_if_lt X 9 (x_dr DX6_boy 1 rfl) (by decide) (fun c1 => ?_) (fun c1 => ?_)
  · replace h := h.1 c1
    refine r_bipush (v := (-2)) X (x_dr DX6_boy 5 rfl) (by decide) ?_
    exact r_iret X rfl (x_dr DX6_boy 6 rfl) ⟨_, rfl, h⟩
  · replace h := h.2 c1
    refine r_iload_n X (x_dr DX6_boy 2 rfl) 1 rfl rfl ?_
    refine r_iconst (v := 1) X (x_dr DX6_boy 3 rfl) (by decide) ?_
    refine r_icmp_le X 12 (x_dr DX6_boy 4 rfl) (by decide) (fun c2 => ?_) (fun c2 => ?_)
    · replace h := h.1 c2
      refine r_aload_n X (x_dr DX6_boy 7 rfl) 0 rfl rfl ?_
      refine cl6_findBoy X (k6_findBoy h) rfl ml_6_213 ⟨Nat.le_of_ble_eq_true rfl, Nat.le_of_ble_eq_true rfl⟩ (Nat.le_of_ble_eq_true rfl) (x_dr DX6_boy 8 rfl) (fun s3 h => ?_)
      refine r_iload_n X (x_dr DX6_boy 9 rfl) 1 rfl rfl ?_
      refine r_if_ne X 30 (x_dr DX6_boy 10 rfl) (by decide) (fun c4 => ?_) (fun c4 => ?_)
      · replace h := h.1 c4
        refine r_aload_n X (x_dr DX6_boy 15 rfl) 0 rfl rfl ?_
        refine gf_6_51 X rfl (x_dr DX6_boy 16 rfl) ?_
        refine gf_6_191 X rfl (x_dr DX6_boy 17 rfl) ?_
        exact r_iret X rfl (x_dr DX6_boy 18 rfl) ⟨_, rfl, h⟩
      · replace h := h.2 c4
        refine r_aload_n X (x_dr DX6_boy 11 rfl) 0 rfl rfl ?_
        refine gf_6_51 X rfl (x_dr DX6_boy 12 rfl) ?_
        refine gf_6_194 X rfl (x_dr DX6_boy 13 rfl) ?_
        refine r_goto X 37 (x_dr DX6_boy 14 rfl) (by decide) ?_
        exact r_iret X rfl (x_dr DX6_boy 18 rfl) ⟨_, rfl, h⟩
    · replace h := h.2 c2
      refine r_bipush (v := (-2)) X (x_dr DX6_boy 5 rfl) (by decide) ?_
      exact r_iret X rfl (x_dr DX6_boy 6 rfl) ⟨_, rfl, h⟩
set_option maxRecDepth 10000 in
theorem k6_isCalmWithout {ad : xAd} {G : xG} {l : Launch} {a1 : Int32} {σ : xSt} {Q : Int32 → xSt → Prop}  (h : d6_isCalmWithout a1 σ Q) : MC ad G l yX6_isCalmWithout cX6_isCalmWithout 2 (some .boolean) 3 70 [.ref (ad 0 0 0), .int a1] σ (qZ Q) := by
  unfold d6_isCalmWithout at h
  refine x_MC [(0, .ref (ad 0 0 0)), (1, .int a1)] (by decide +kernel) rfl (Nat.le_of_ble_eq_true rfl) ?_
  intro E hG hl X
  replace X : FX ad E cX6_isCalmWithout 2 RX6 (some .boolean) 3 70 := X
  refine r_aload_n X (x_dr DX6_isCalmWithout 0 rfl) 0 rfl rfl ?_
  refine gf_6_28 X rfl (x_dr DX6_isCalmWithout 1 rfl) ?_
  refine r_aload_n X (x_dr DX6_isCalmWithout 2 rfl) 0 rfl rfl ?_
  refine gf_6_24 X rfl (x_dr DX6_isCalmWithout 3 rfl) ?_
  refine cl1_takeAll X (k1_takeAll rfl rfl h) rfl ml_6_233 ⟨Nat.le_of_ble_eq_true rfl, Nat.le_of_ble_eq_true rfl⟩ (Nat.le_of_ble_eq_true rfl) (x_dr DX6_isCalmWithout 4 rfl) (fun s1 h => ?_)
  refine r_aload_n X (x_dr DX6_isCalmWithout 5 rfl) 0 rfl rfl ?_
  refine gf_6_28 X rfl (x_dr DX6_isCalmWithout 6 rfl) ?_
  refine r_aload_n X (x_dr DX6_isCalmWithout 7 rfl) 0 rfl rfl ?_
  refine gf_6_24 X rfl (x_dr DX6_isCalmWithout 8 rfl) ?_
  refine r_iload_n X (x_dr DX6_isCalmWithout 9 rfl) 1 rfl rfl ?_
  refine r_iconst (v := (-1)) X (x_dr DX6_isCalmWithout 10 rfl) (by decide) ?_
  refine r_ixor X (x_dr DX6_isCalmWithout 11 rfl) ?_
  refine cl1_takeEvents X (k1_takeEvents rfl rfl h) rfl ml_6_237 ⟨Nat.le_of_ble_eq_true rfl, Nat.le_of_ble_eq_true rfl⟩ (Nat.le_of_ble_eq_true rfl) (x_dr DX6_isCalmWithout 12 rfl) (fun s2 h => ?_)
  refine r_aload_n X (x_dr DX6_isCalmWithout 13 rfl) 0 rfl rfl ?_
  refine gf_6_38 X rfl (x_dr DX6_isCalmWithout 14 rfl) ?_
  refine r_aload_n X (x_dr DX6_isCalmWithout 15 rfl) 0 rfl rfl ?_
  refine gf_6_28 X rfl (x_dr DX6_isCalmWithout 16 rfl) ?_
  refine r_bipush (v := 20) X (x_dr DX6_isCalmWithout 17 rfl) (by decide) ?_
  refine cl2_sit X (k2_sit rfl rfl h) rfl ml_6_241 ⟨Nat.le_of_ble_eq_true rfl, Nat.le_of_ble_eq_true rfl⟩ (Nat.le_of_ble_eq_true rfl) (x_dr DX6_isCalmWithout 18 rfl) (fun s3 h => ?_)
  refine r_aload_n X (x_dr DX6_isCalmWithout 19 rfl) 0 rfl rfl ?_
  refine gf_6_38 X rfl (x_dr DX6_isCalmWithout 20 rfl) ?_
  refine cl2_carriedInAll X (k2_carriedInAll rfl h) rfl ml_6_181 ⟨Nat.le_of_ble_eq_true rfl, Nat.le_of_ble_eq_true rfl⟩ (Nat.le_of_ble_eq_true rfl) (x_dr DX6_isCalmWithout 21 rfl) (fun v5 s4 h => ?_)
  refine r_bipush (v := 20) X (x_dr DX6_isCalmWithout 22 rfl) (by decide) ?_
  refine r_icmp_ne X 54 (x_dr DX6_isCalmWithout 23 rfl) (by decide) (fun c6 => ?_) (fun c6 => ?_)
  · replace h := h.1 c6
    refine r_iconst (v := 0) X (x_dr DX6_isCalmWithout 26 rfl) (by decide) ?_
    exact r_zret X rfl (x_dr DX6_isCalmWithout 27 rfl) (Or.inl rfl) ⟨_, rfl, (Or.inl rfl), h⟩
  · replace h := h.2 c6
    refine r_iconst (v := 1) X (x_dr DX6_isCalmWithout 24 rfl) (by decide) ?_
    refine r_goto X 55 (x_dr DX6_isCalmWithout 25 rfl) (by decide) ?_
    exact r_zret X rfl (x_dr DX6_isCalmWithout 27 rfl) (Or.inr rfl) ⟨_, rfl, (Or.inr rfl), h⟩
set_option maxRecDepth 10000 in
theorem k6_setCalm {ad : xAd} {G : xG} {l : Launch} {a1 : Int32} {a2 : Int32} {a3 : Int32} {σ : xSt} {Q : xSt → Prop}  (h : d6_setCalm a1 a2 a3 σ Q) : MC ad G l yX6_setCalm cX6_setCalm 4 none 0 0 [.ref (ad 0 0 0), .int a1, .int a2, .int a3] σ (qV Q) := by
  unfold d6_setCalm at h
  refine x_MC [(0, .ref (ad 0 0 0)), (1, .int a1), (2, .int a2), (3, .int a3)] (by decide +kernel) rfl (Nat.le_of_ble_eq_true rfl) ?_
  intro E hG hl X
  replace X : FX ad E cX6_setCalm 4 RX6 none 0 0 := X
  refine r_aload_n X (x_dr DX6_setCalm 0 rfl) 0 rfl rfl ?_
  refine r_iload_n X (x_dr DX6_setCalm 1 rfl) 1 rfl rfl ?_
  refine pf_6_219 X rfl (x_dr DX6_setCalm 2 rfl) ?_
  refine r_nmS (fun s1 es1 => ?_)
  replace h := h s1 es1
  refine r_aload_n X (x_dr DX6_setCalm 3 rfl) 0 rfl rfl ?_
  refine r_iload_n X (x_dr DX6_setCalm 4 rfl) 2 rfl rfl ?_
  refine pf_6_222 X rfl (x_dr DX6_setCalm 5 rfl) ?_
  refine r_nmS (fun s2 es2 => ?_)
  replace h := h s2 es2
  refine r_aload_n X (x_dr DX6_setCalm 6 rfl) 0 rfl rfl ?_
  refine r_iload_n X (x_dr DX6_setCalm 7 rfl) 3 rfl rfl ?_
  refine pf_6_225 X rfl (x_dr DX6_setCalm 8 rfl) ?_
  refine r_nmS (fun s3 es3 => ?_)
  replace h := h s3 es3
  exact r_vret X rfl (x_dr DX6_setCalm 9 rfl) ⟨rfl, h⟩
set_option maxRecDepth 10000 in
theorem w6_findCalm_L18 {ad : xAd} {E : xE} (X : FX ad E cX6_findCalm 3 RX6 none 4 91)   {K : xSt → Prop} {Q : xSt → Prop} : ∀ (n : Nat) (a1 : Int32) (σ : xSt), d6_findCalm_L18 K Q n a1 σ → (∀ (s : xSt), K  s → KK ad E (qV Q) 53 ([(0, .ref (ad 0 0 0))]) [] s) → KK ad E (qV Q) 18 ([(0, .ref (ad 0 0 0)), (1, .int a1)]) [] σ := by
  intro n
  induction n with
  | zero => intro a1 σ h kk; exact h.elim
  | succ n ih =>
    intro a1 σ h kk
    rw [d6_findCalm_L18] at h
    refine r_iload_n X (x_dr DX6_findCalm 12 rfl) 1 rfl rfl ?_
    refine r_aload_n X (x_dr DX6_findCalm 13 rfl) 0 rfl rfl ?_
    refine gf_6_24 X rfl (x_dr DX6_findCalm 14 rfl) ?_
    refine gf_6_124 X rfl (x_dr DX6_findCalm 15 rfl) ?_
    refine r_icmp_ge X 53 (x_dr DX6_findCalm 16 rfl) (by decide) (fun c4 => ?_) (fun c4 => ?_)
    · replace h := h.1 c4
      refine r_norm X [0] ([(0, .ref (ad 0 0 0))]) rfl ?_
      exact kk  _ h
    · replace h := h.2 c4
      refine r_aload_n X (x_dr DX6_findCalm 17 rfl) 0 rfl rfl ?_
      refine r_iconst (v := 1) X (x_dr DX6_findCalm 18 rfl) (by decide) ?_
      refine r_iload_n X (x_dr DX6_findCalm 19 rfl) 1 rfl rfl ?_
      refine r_ishl X (x_dr DX6_findCalm 20 rfl) ?_
      refine cl6_isCalmWithout X (k6_isCalmWithout h) rfl ml_6_355 ⟨Nat.le_of_ble_eq_true rfl, Nat.le_of_ble_eq_true rfl⟩ (Nat.le_of_ble_eq_true rfl) (x_dr DX6_findCalm 21 rfl) (fun v6 s5 zv6 h => ?_)
      refine r_if_eq X 47 (x_dr DX6_findCalm 22 rfl) (by decide) (fun c7 => ?_) (fun c7 => ?_)
      · replace h := h.1 c7
        obtain ⟨v8, ev8⟩ : ∃ z : Int32, z = a1 + 1 := ⟨_, rfl⟩
        replace h := h v8 ev8
        refine r_iinc (v := v8) X ([(1, .int v8), (0, .ref (ad 0 0 0))]) 1 (x_dr DX6_findCalm 29 rfl) rfl (by rw [ev8]; rfl) (by decide) rfl ?_
        refine r_goto X 18 (x_dr DX6_findCalm 30 rfl) (by decide) ?_
        refine r_norm X [1, 0] ([(0, .ref (ad 0 0 0)), (1, .int v8)]) rfl ?_
        exact ih _ _ h kk
      · replace h := h.2 c7
        refine r_aload_n X (x_dr DX6_findCalm 23 rfl) 0 rfl rfl ?_
        refine r_iconst (v := 1) X (x_dr DX6_findCalm 24 rfl) (by decide) ?_
        refine r_iload_n X (x_dr DX6_findCalm 25 rfl) 1 rfl rfl ?_
        refine r_iconst (v := (-1)) X (x_dr DX6_findCalm 26 rfl) (by decide) ?_
        refine cl6_setCalm X (k6_setCalm h) rfl ml_6_358 ⟨Nat.le_of_ble_eq_true rfl, Nat.le_of_ble_eq_true rfl⟩ (Nat.le_of_ble_eq_true rfl) (x_dr DX6_findCalm 27 rfl) (fun s9 h => ?_)
        exact r_vret X rfl (x_dr DX6_findCalm 28 rfl) ⟨rfl, h⟩
set_option maxRecDepth 10000 in
theorem w6_findCalm_L70 {ad : xAd} {E : xE} (X : FX ad E cX6_findCalm 3 RX6 none 4 91)   {a1 : Int32} {K : xSt → Prop} {Q : xSt → Prop} : ∀ (n : Nat) (a2 : Int32) (σ : xSt), d6_findCalm_L70 a1 K Q n a2 σ → (∀ (s : xSt), K  s → KK ad E (qV Q) 109 ([(0, .ref (ad 0 0 0)), (1, .int a1)]) [] s) → KK ad E (qV Q) 70 ([(0, .ref (ad 0 0 0)), (1, .int a1), (2, .int a2)]) [] σ := by
  intro n
  induction n with
  | zero => intro a2 σ h kk; exact h.elim
  | succ n ih =>
    intro a2 σ h kk
    rw [d6_findCalm_L70] at h
    refine r_iload_n X (x_dr DX6_findCalm 42 rfl) 2 rfl rfl ?_
    refine r_aload_n X (x_dr DX6_findCalm 43 rfl) 0 rfl rfl ?_
    refine gf_6_24 X rfl (x_dr DX6_findCalm 44 rfl) ?_
    refine gf_6_124 X rfl (x_dr DX6_findCalm 45 rfl) ?_
    refine r_icmp_ge X 109 (x_dr DX6_findCalm 46 rfl) (by decide) (fun c13 => ?_) (fun c13 => ?_)
    · replace h := h.1 c13
      refine r_norm X [0, 1] ([(0, .ref (ad 0 0 0)), (1, .int a1)]) rfl ?_
      exact kk  _ h
    · replace h := h.2 c13
      refine r_aload_n X (x_dr DX6_findCalm 47 rfl) 0 rfl rfl ?_
      refine r_iconst (v := 1) X (x_dr DX6_findCalm 48 rfl) (by decide) ?_
      refine r_iload_n X (x_dr DX6_findCalm 49 rfl) 1 rfl rfl ?_
      refine r_ishl X (x_dr DX6_findCalm 50 rfl) ?_
      refine r_iconst (v := 1) X (x_dr DX6_findCalm 51 rfl) (by decide) ?_
      refine r_iload_n X (x_dr DX6_findCalm 52 rfl) 2 rfl rfl ?_
      refine r_ishl X (x_dr DX6_findCalm 53 rfl) ?_
      refine r_ior X (x_dr DX6_findCalm 54 rfl) ?_
      refine cl6_isCalmWithout X (k6_isCalmWithout h) rfl ml_6_355 ⟨Nat.le_of_ble_eq_true rfl, Nat.le_of_ble_eq_true rfl⟩ (Nat.le_of_ble_eq_true rfl) (x_dr DX6_findCalm 55 rfl) (fun v15 s14 zv15 h => ?_)
      refine r_if_eq X 103 (x_dr DX6_findCalm 56 rfl) (by decide) (fun c16 => ?_) (fun c16 => ?_)
      · replace h := h.1 c16
        obtain ⟨v17, ev17⟩ : ∃ z : Int32, z = a2 + 1 := ⟨_, rfl⟩
        replace h := h v17 ev17
        refine r_iinc (v := v17) X ([(2, .int v17), (0, .ref (ad 0 0 0)), (1, .int a1)]) 2 (x_dr DX6_findCalm 63 rfl) rfl (by rw [ev17]; rfl) (by decide) rfl ?_
        refine r_goto X 70 (x_dr DX6_findCalm 64 rfl) (by decide) ?_
        refine r_norm X [1, 2, 0] ([(0, .ref (ad 0 0 0)), (1, .int a1), (2, .int v17)]) rfl ?_
        exact ih _ _ h kk
      · replace h := h.2 c16
        refine r_aload_n X (x_dr DX6_findCalm 57 rfl) 0 rfl rfl ?_
        refine r_iconst (v := 2) X (x_dr DX6_findCalm 58 rfl) (by decide) ?_
        refine r_iload_n X (x_dr DX6_findCalm 59 rfl) 1 rfl rfl ?_
        refine r_iload_n X (x_dr DX6_findCalm 60 rfl) 2 rfl rfl ?_
        refine cl6_setCalm X (k6_setCalm h) rfl ml_6_358 ⟨Nat.le_of_ble_eq_true rfl, Nat.le_of_ble_eq_true rfl⟩ (Nat.le_of_ble_eq_true rfl) (x_dr DX6_findCalm 61 rfl) (fun s18 h => ?_)
        exact r_vret X rfl (x_dr DX6_findCalm 62 rfl) ⟨rfl, h⟩
set_option maxRecDepth 10000 in
theorem w6_findCalm_L55 {ad : xAd} {E : xE} (X : FX ad E cX6_findCalm 3 RX6 none 4 91)   {K : xSt → Prop} {Q : xSt → Prop} : ∀ (n : Nat) (a1 : Int32) (σ : xSt), d6_findCalm_L55 K Q n a1 σ → (∀ (s : xSt), K  s → KK ad E (qV Q) 115 ([(0, .ref (ad 0 0 0))]) [] s) → KK ad E (qV Q) 55 ([(0, .ref (ad 0 0 0)), (1, .int a1)]) [] σ := by
  intro n
  induction n with
  | zero => intro a1 σ h kk; exact h.elim
  | succ n ih =>
    intro a1 σ h kk
    rw [d6_findCalm_L55] at h
    refine r_iload_n X (x_dr DX6_findCalm 33 rfl) 1 rfl rfl ?_
    refine r_aload_n X (x_dr DX6_findCalm 34 rfl) 0 rfl rfl ?_
    refine gf_6_24 X rfl (x_dr DX6_findCalm 35 rfl) ?_
    refine gf_6_124 X rfl (x_dr DX6_findCalm 36 rfl) ?_
    refine r_icmp_ge X 115 (x_dr DX6_findCalm 37 rfl) (by decide) (fun c11 => ?_) (fun c11 => ?_)
    · replace h := h.1 c11
      refine r_norm X [0] ([(0, .ref (ad 0 0 0))]) rfl ?_
      exact kk  _ h
    · replace h := h.2 c11
      refine r_iload_n X (x_dr DX6_findCalm 38 rfl) 1 rfl rfl ?_
      refine r_iconst (v := 1) X (x_dr DX6_findCalm 39 rfl) (by decide) ?_
      refine r_iadd X (x_dr DX6_findCalm 40 rfl) ?_
      refine r_nmI (fun v12 ev12 => ?_)
      replace h := h v12 ev12
      refine r_istore_n X ([(2, .int v12), (0, .ref (ad 0 0 0)), (1, .int a1)]) (x_dr DX6_findCalm 41 rfl) rfl (by decide) rfl ?_
      refine r_norm X [1, 2, 0] ([(0, .ref (ad 0 0 0)), (1, .int a1), (2, .int v12)]) rfl ?_
      refine w6_findCalm_L70 X  _ _ _ h (fun s19 h => ?_)
      obtain ⟨v20, ev20⟩ : ∃ z : Int32, z = a1 + 1 := ⟨_, rfl⟩
      replace h := h v20 ev20
      refine r_iinc (v := v20) X ([(1, .int v20), (0, .ref (ad 0 0 0))]) 1 (x_dr DX6_findCalm 65 rfl) rfl (by rw [ev20]; rfl) (by decide) rfl ?_
      refine r_goto X 55 (x_dr DX6_findCalm 66 rfl) (by decide) ?_
      refine r_norm X [1, 0] ([(0, .ref (ad 0 0 0)), (1, .int v20)]) rfl ?_
      exact ih _ _ h kk
set_option maxRecDepth 10000 in
theorem k6_findCalm {ad : xAd} {G : xG} {l : Launch} {σ : xSt} {Q : xSt → Prop}  (h : d6_findCalm σ Q) : MC ad G l yX6_findCalm cX6_findCalm 3 none 4 91 [.ref (ad 0 0 0)] σ (qV Q) := by
  unfold d6_findCalm at h
  refine x_MC [(0, .ref (ad 0 0 0))] (by decide +kernel) rfl (Nat.le_of_ble_eq_true rfl) ?_
  intro E hG hl X
  replace X : FX ad E cX6_findCalm 3 RX6 none 4 91 := X
  refine r_aload_n X (x_dr DX6_findCalm 0 rfl) 0 rfl rfl ?_
  refine r_iconst (v := 0) X (x_dr DX6_findCalm 1 rfl) (by decide) ?_
  refine cl6_isCalmWithout X (k6_isCalmWithout h) rfl ml_6_355 ⟨Nat.le_of_ble_eq_true rfl, Nat.le_of_ble_eq_true rfl⟩ (Nat.le_of_ble_eq_true rfl) (x_dr DX6_findCalm 2 rfl) (fun v2 s1 zv2 h => ?_)
  refine r_if_eq X 16 (x_dr DX6_findCalm 3 rfl) (by decide) (fun c3 => ?_) (fun c3 => ?_)
  · replace h := h.1 c3
    refine r_iconst (v := 0) X (x_dr DX6_findCalm 10 rfl) (by decide) ?_
    refine r_istore_n X ([(1, .int 0), (0, .ref (ad 0 0 0))]) (x_dr DX6_findCalm 11 rfl) rfl (by decide) rfl ?_
    refine r_norm X [1, 0] ([(0, .ref (ad 0 0 0)), (1, .int 0)]) rfl ?_
    refine w6_findCalm_L18 X  _ _ _ h (fun s10 h => ?_)
    refine r_iconst (v := 0) X (x_dr DX6_findCalm 31 rfl) (by decide) ?_
    refine r_istore_n X ([(1, .int 0), (0, .ref (ad 0 0 0))]) (x_dr DX6_findCalm 32 rfl) rfl (by decide) rfl ?_
    refine r_norm X [1, 0] ([(0, .ref (ad 0 0 0)), (1, .int 0)]) rfl ?_
    refine w6_findCalm_L55 X  _ _ _ h (fun s21 h => ?_)
    refine r_aload_n X (x_dr DX6_findCalm 67 rfl) 0 rfl rfl ?_
    refine r_iconst (v := (-1)) X (x_dr DX6_findCalm 68 rfl) (by decide) ?_
    refine r_iconst (v := (-1)) X (x_dr DX6_findCalm 69 rfl) (by decide) ?_
    refine r_iconst (v := (-1)) X (x_dr DX6_findCalm 70 rfl) (by decide) ?_
    refine cl6_setCalm X (k6_setCalm h) rfl ml_6_358 ⟨Nat.le_of_ble_eq_true rfl, Nat.le_of_ble_eq_true rfl⟩ (Nat.le_of_ble_eq_true rfl) (x_dr DX6_findCalm 71 rfl) (fun s22 h => ?_)
    exact r_vret X rfl (x_dr DX6_findCalm 72 rfl) ⟨rfl, h⟩
  · replace h := h.2 c3
    refine r_aload_n X (x_dr DX6_findCalm 4 rfl) 0 rfl rfl ?_
    refine r_iconst (v := 0) X (x_dr DX6_findCalm 5 rfl) (by decide) ?_
    refine r_iconst (v := (-1)) X (x_dr DX6_findCalm 6 rfl) (by decide) ?_
    refine r_iconst (v := (-1)) X (x_dr DX6_findCalm 7 rfl) (by decide) ?_
    refine cl6_setCalm X (k6_setCalm h) rfl ml_6_358 ⟨Nat.le_of_ble_eq_true rfl, Nat.le_of_ble_eq_true rfl⟩ (Nat.le_of_ble_eq_true rfl) (x_dr DX6_findCalm 8 rfl) (fun s23 h => ?_)
    exact r_vret X rfl (x_dr DX6_findCalm 9 rfl) ⟨rfl, h⟩
set_option maxRecDepth 10000 in
theorem k6_calm {ad : xAd} {G : xG} {l : Launch} {a1 : Int32} {σ : xSt} {Q : Int32 → xSt → Prop}  (h : d6_calm a1 σ Q) : MC ad G l yX6_calm cX6_calm 2 (some .int) 5 113 [.ref (ad 0 0 0), .int a1] σ (qI Q) := by
  unfold d6_calm at h
  refine x_MC [(0, .ref (ad 0 0 0)), (1, .int a1)] (by decide +kernel) rfl (Nat.le_of_ble_eq_true rfl) ?_
  intro E hG hl X
  replace X : FX ad E cX6_calm 2 RX6 (some .int) 5 113 := X
  refine r_iload_n X (x_dr DX6_calm 0 rfl) 1 rfl rfl ?_
  refine r_iconst (v := (-1)) X (x_dr DX6_calm 1 rfl) (by decide) ?_
  refine r_icmp_lt X 10 (x_dr DX6_calm 2 rfl) (by decide) (fun c1 => ?_) (fun c1 => ?_)
  · replace h := h.1 c1
    refine r_bipush (v := (-2)) X (x_dr DX6_calm 6 rfl) (by decide) ?_
    exact r_iret X rfl (x_dr DX6_calm 7 rfl) ⟨_, rfl, h⟩
  · replace h := h.2 c1
    refine r_iload_n X (x_dr DX6_calm 3 rfl) 1 rfl rfl ?_
    refine r_iconst (v := 1) X (x_dr DX6_calm 4 rfl) (by decide) ?_
    refine r_icmp_le X 13 (x_dr DX6_calm 5 rfl) (by decide) (fun c2 => ?_) (fun c2 => ?_)
    · replace h := h.1 c2
      refine r_aload_n X (x_dr DX6_calm 8 rfl) 0 rfl rfl ?_
      refine cl6_findCalm X (k6_findCalm h) rfl ml_6_216 ⟨Nat.le_of_ble_eq_true rfl, Nat.le_of_ble_eq_true rfl⟩ (Nat.le_of_ble_eq_true rfl) (x_dr DX6_calm 9 rfl) (fun s3 h => ?_)
      refine r_iload_n X (x_dr DX6_calm 10 rfl) 1 rfl rfl ?_
      refine r_iconst (v := (-1)) X (x_dr DX6_calm 11 rfl) (by decide) ?_
      refine r_icmp_ne X 27 (x_dr DX6_calm 12 rfl) (by decide) (fun c4 => ?_) (fun c4 => ?_)
      · replace h := h.1 c4
        refine r_iload_n X (x_dr DX6_calm 16 rfl) 1 rfl rfl ?_
        refine r_if_ne X 38 (x_dr DX6_calm 17 rfl) (by decide) (fun c5 => ?_) (fun c5 => ?_)
        · replace h := h.1 c5
          refine r_aload_n X (x_dr DX6_calm 21 rfl) 0 rfl rfl ?_
          refine gf_6_225 X rfl (x_dr DX6_calm 22 rfl) ?_
          exact r_iret X rfl (x_dr DX6_calm 23 rfl) ⟨_, rfl, h⟩
        · replace h := h.2 c5
          refine r_aload_n X (x_dr DX6_calm 18 rfl) 0 rfl rfl ?_
          refine gf_6_222 X rfl (x_dr DX6_calm 19 rfl) ?_
          refine r_goto X 42 (x_dr DX6_calm 20 rfl) (by decide) ?_
          exact r_iret X rfl (x_dr DX6_calm 23 rfl) ⟨_, rfl, h⟩
      · replace h := h.2 c4
        refine r_aload_n X (x_dr DX6_calm 13 rfl) 0 rfl rfl ?_
        refine gf_6_219 X rfl (x_dr DX6_calm 14 rfl) ?_
        exact r_iret X rfl (x_dr DX6_calm 15 rfl) ⟨_, rfl, h⟩
    · replace h := h.2 c2
      refine r_bipush (v := (-2)) X (x_dr DX6_calm 6 rfl) (by decide) ?_
      exact r_iret X rfl (x_dr DX6_calm 7 rfl) ⟨_, rfl, h⟩
set_option maxRecDepth 10000 in
theorem k6_seen {ad : xAd} {G : xG} {l : Launch} {a1 : Int32} {a2 : Int32} {a3 : Int32} {σ : xSt} {Q : Int32 → xSt → Prop}  (h : d6_seen a1 a2 a3 σ Q) : MC ad G l yX6_seen cX6_seen 4 (some .int) 1 23 [.ref (ad 0 0 0), .int a1, .int a2, .int a3] σ (qI Q) := by
  unfold d6_seen at h
  refine x_MC [(0, .ref (ad 0 0 0)), (1, .int a1), (2, .int a2), (3, .int a3)] (by decide +kernel) rfl (Nat.le_of_ble_eq_true rfl) ?_
  intro E hG hl X
  replace X : FX ad E cX6_seen 4 RX6 (some .int) 1 23 := X
  refine r_iload_n X (x_dr DX6_seen 0 rfl) 1 rfl rfl ?_
  refine cl6_isHour X (k6_isHour h) ml_6_121 ⟨Nat.le_of_ble_eq_true rfl, Nat.le_of_ble_eq_true rfl⟩ (Nat.le_of_ble_eq_true rfl) (x_dr DX6_seen 1 rfl) (fun v2 s1 zv2 h => ?_)
  refine r_if_eq X 24 (x_dr DX6_seen 2 rfl) (by decide) (fun c3 => ?_) (fun c3 => ?_)
  · replace h := h.1 c3
    refine r_bipush (v := (-2)) X (x_dr DX6_seen 11 rfl) (by decide) ?_
    exact r_iret X rfl (x_dr DX6_seen 12 rfl) ⟨_, rfl, h⟩
  · replace h := h.2 c3
    refine r_iload_n X (x_dr DX6_seen 3 rfl) 2 rfl rfl ?_
    refine r_if_lt X 24 (x_dr DX6_seen 4 rfl) (by decide) (fun c4 => ?_) (fun c4 => ?_)
    · replace h := h.1 c4
      refine r_bipush (v := (-2)) X (x_dr DX6_seen 11 rfl) (by decide) ?_
      exact r_iret X rfl (x_dr DX6_seen 12 rfl) ⟨_, rfl, h⟩
    · replace h := h.2 c4
      refine r_iload_n X (x_dr DX6_seen 5 rfl) 2 rfl rfl ?_
      refine r_bipush (v := 8) X (x_dr DX6_seen 6 rfl) (by decide) ?_
      refine r_icmp_ge X 24 (x_dr DX6_seen 7 rfl) (by decide) (fun c5 => ?_) (fun c5 => ?_)
      · replace h := h.1 c5
        refine r_bipush (v := (-2)) X (x_dr DX6_seen 11 rfl) (by decide) ?_
        exact r_iret X rfl (x_dr DX6_seen 12 rfl) ⟨_, rfl, h⟩
      · replace h := h.2 c5
        refine r_iload_n X (x_dr DX6_seen 8 rfl) 3 rfl rfl ?_
        refine cl6_isPlace X (k6_isPlace h) ml_6_102 ⟨Nat.le_of_ble_eq_true rfl, Nat.le_of_ble_eq_true rfl⟩ (Nat.le_of_ble_eq_true rfl) (x_dr DX6_seen 9 rfl) (fun v7 s6 zv7 h => ?_)
        refine r_if_ne X 27 (x_dr DX6_seen 10 rfl) (by decide) (fun c8 => ?_) (fun c8 => ?_)
        · replace h := h.1 c8
          refine r_aload_n X (x_dr DX6_seen 13 rfl) 0 rfl rfl ?_
          refine gf_6_44 X rfl (x_dr DX6_seen 14 rfl) ?_
          refine r_iload_n X (x_dr DX6_seen 15 rfl) 1 rfl rfl ?_
          refine r_iload_n X (x_dr DX6_seen 16 rfl) 2 rfl rfl ?_
          refine r_iload_n X (x_dr DX6_seen 17 rfl) 3 rfl rfl ?_
          refine cl4_add X (k4_add h) rfl ml_6_228 ⟨Nat.le_of_ble_eq_true rfl, Nat.le_of_ble_eq_true rfl⟩ (Nat.le_of_ble_eq_true rfl) (x_dr DX6_seen 18 rfl) (fun v10 s9 zv10 h => ?_)
          refine r_if_eq X 50 (x_dr DX6_seen 19 rfl) (by decide) (fun c11 => ?_) (fun c11 => ?_)
          · replace h := h.1 c11
            refine r_bipush (v := (-4)) X (x_dr DX6_seen 24 rfl) (by decide) ?_
            exact r_iret X rfl (x_dr DX6_seen 25 rfl) ⟨_, rfl, h⟩
          · replace h := h.2 c11
            refine r_aload_n X (x_dr DX6_seen 20 rfl) 0 rfl rfl ?_
            refine gf_6_44 X rfl (x_dr DX6_seen 21 rfl) ?_
            refine gf_6_232 X rfl (x_dr DX6_seen 22 rfl) ?_
            refine r_goto X 52 (x_dr DX6_seen 23 rfl) (by decide) ?_
            exact r_iret X rfl (x_dr DX6_seen 25 rfl) ⟨_, rfl, h⟩
        · replace h := h.2 c8
          refine r_bipush (v := (-2)) X (x_dr DX6_seen 11 rfl) (by decide) ?_
          exact r_iret X rfl (x_dr DX6_seen 12 rfl) ⟨_, rfl, h⟩
set_option maxRecDepth 10000 in
theorem k6_forget {ad : xAd} {G : xG} {l : Launch} {σ : xSt} {Q : Int32 → xSt → Prop}  (h : d6_forget σ Q) : MC ad G l yX6_forget cX6_forget 2 (some .int) 0 0 [.ref (ad 0 0 0)] σ (qI Q) := by
  unfold d6_forget at h
  refine x_MC [(0, .ref (ad 0 0 0))] (by decide +kernel) rfl (Nat.le_of_ble_eq_true rfl) ?_
  intro E hG hl X
  replace X : FX ad E cX6_forget 2 RX6 (some .int) 0 0 := X
  refine r_aload_n X (x_dr DX6_forget 0 rfl) 0 rfl rfl ?_
  refine gf_6_44 X rfl (x_dr DX6_forget 1 rfl) ?_
  refine gf_6_232 X rfl (x_dr DX6_forget 2 rfl) ?_
  refine r_nmI (fun v1 ev1 => ?_)
  replace h := h v1 ev1
  refine r_istore_n X ([(1, .int v1), (0, .ref (ad 0 0 0))]) (x_dr DX6_forget 3 rfl) rfl (by decide) rfl ?_
  refine r_aload_n X (x_dr DX6_forget 4 rfl) 1 rfl rfl ?_
  refine gf_6_44 X rfl (x_dr DX6_forget 5 rfl) ?_
  refine r_iconst (v := 0) X (x_dr DX6_forget 6 rfl) (by decide) ?_
  refine pf_6_232 X rfl (x_dr DX6_forget 7 rfl) ?_
  refine r_nmS (fun s2 es2 => ?_)
  replace h := h s2 es2
  refine r_iload_n X (x_dr DX6_forget 8 rfl) 0 rfl rfl ?_
  exact r_iret X rfl (x_dr DX6_forget 9 rfl) ⟨_, rfl, h⟩
set_option maxRecDepth 10000 in
theorem w6_never_L15 {ad : xAd} {E : xE} (X : FX ad E cX6_never 3 RX6 (some .int) 3 70)   {K : Int32 → xSt → Prop} {Q : Int32 → xSt → Prop} : ∀ (n : Nat) (a1 : Int32) (a2 : Int32) (σ : xSt), d6_never_L15 K Q n a1 a2 σ → (∀ (a1 : Int32) (s : xSt), K a1 s → KK ad E (qI Q) 85 ([(1, .int a1)]) [] s) → KK ad E (qI Q) 15 ([(0, .ref (ad 0 0 0)), (1, .int a1), (2, .int a2)]) [] σ := by
  intro n
  induction n with
  | zero => intro a1 a2 σ h kk; exact h.elim
  | succ n ih =>
    intro a1 a2 σ h kk
    rw [d6_never_L15] at h
    refine r_iload_n X (x_dr DX6_never 9 rfl) 2 rfl rfl ?_
    refine r_aload_n X (x_dr DX6_never 10 rfl) 0 rfl rfl ?_
    refine gf_6_24 X rfl (x_dr DX6_never 11 rfl) ?_
    refine gf_6_124 X rfl (x_dr DX6_never 12 rfl) ?_
    refine r_icmp_ge X 85 (x_dr DX6_never 13 rfl) (by decide) (fun c2 => ?_) (fun c2 => ?_)
    · replace h := h.1 c2
      refine r_norm X [1] ([(1, .int a1)]) rfl ?_
      exact kk _ _ h
    · replace h := h.2 c2
      refine r_aload_n X (x_dr DX6_never 14 rfl) 0 rfl rfl ?_
      refine gf_6_28 X rfl (x_dr DX6_never 15 rfl) ?_
      refine r_aload_n X (x_dr DX6_never 16 rfl) 0 rfl rfl ?_
      refine gf_6_24 X rfl (x_dr DX6_never 17 rfl) ?_
      refine r_iconst (v := 1) X (x_dr DX6_never 18 rfl) (by decide) ?_
      refine r_iload_n X (x_dr DX6_never 19 rfl) 2 rfl rfl ?_
      refine r_ishl X (x_dr DX6_never 20 rfl) ?_
      refine r_iconst (v := (-1)) X (x_dr DX6_never 21 rfl) (by decide) ?_
      refine r_ixor X (x_dr DX6_never 22 rfl) ?_
      refine cl1_takeEvents X (k1_takeEvents rfl rfl h) rfl ml_6_237 ⟨Nat.le_of_ble_eq_true rfl, Nat.le_of_ble_eq_true rfl⟩ (Nat.le_of_ble_eq_true rfl) (x_dr DX6_never 23 rfl) (fun s3 h => ?_)
      refine r_aload_n X (x_dr DX6_never 24 rfl) 0 rfl rfl ?_
      refine gf_6_38 X rfl (x_dr DX6_never 25 rfl) ?_
      refine r_aload_n X (x_dr DX6_never 26 rfl) 0 rfl rfl ?_
      refine gf_6_28 X rfl (x_dr DX6_never 27 rfl) ?_
      refine r_bipush (v := 20) X (x_dr DX6_never 28 rfl) (by decide) ?_
      refine cl2_sit X (k2_sit rfl rfl h) rfl ml_6_241 ⟨Nat.le_of_ble_eq_true rfl, Nat.le_of_ble_eq_true rfl⟩ (Nat.le_of_ble_eq_true rfl) (x_dr DX6_never 29 rfl) (fun s4 h => ?_)
      refine r_iload_n X (x_dr DX6_never 30 rfl) 1 rfl rfl ?_
      refine r_aload_n X (x_dr DX6_never 31 rfl) 0 rfl rfl ?_
      refine gf_6_44 X rfl (x_dr DX6_never 32 rfl) ?_
      refine r_aload_n X (x_dr DX6_never 33 rfl) 0 rfl rfl ?_
      refine gf_6_38 X rfl (x_dr DX6_never 34 rfl) ?_
      refine cl4_comeOutSo X (k4_comeOutSo rfl h) rfl ml_6_244 ⟨Nat.le_of_ble_eq_true rfl, Nat.le_of_ble_eq_true rfl⟩ (Nat.le_of_ble_eq_true rfl) (x_dr DX6_never 35 rfl) (fun v6 s5 zv6 h => ?_)
      obtain ⟨j9, ej9, h⟩ := x_jn h
      have Jj9 : ∀ (v8 : Int32), j9 v8 → KK ad E (qI Q) 77 ([(0, .ref (ad 0 0 0)), (2, .int a2)]) [.int v8, .int a1] s5 := by
        intro v8 h
        rw [ej9] at h
        refine r_ior X (x_dr DX6_never 42 rfl) ?_
        refine r_nmI (fun v10 ev10 => ?_)
        replace h := h v10 ev10
        refine r_istore_n X ([(1, .int v10), (0, .ref (ad 0 0 0)), (2, .int a2)]) (x_dr DX6_never 43 rfl) rfl (by decide) rfl ?_
        obtain ⟨v11, ev11⟩ : ∃ z : Int32, z = a2 + 1 := ⟨_, rfl⟩
        replace h := h v11 ev11
        refine r_iinc (v := v11) X ([(2, .int v11), (1, .int v10), (0, .ref (ad 0 0 0))]) 2 (x_dr DX6_never 44 rfl) rfl (by rw [ev11]; rfl) (by decide) rfl ?_
        refine r_goto X 15 (x_dr DX6_never 45 rfl) (by decide) ?_
        refine r_norm X [2, 1, 0] ([(0, .ref (ad 0 0 0)), (1, .int v10), (2, .int v11)]) rfl ?_
        exact ih _ _ _ h kk
      refine r_if_eq X 76 (x_dr DX6_never 36 rfl) (by decide) (fun c12 => ?_) (fun c12 => ?_)
      · replace h := h.1 c12
        refine r_iconst (v := 0) X (x_dr DX6_never 41 rfl) (by decide) ?_
        refine r_norm X [0, 2] ([(0, .ref (ad 0 0 0)), (2, .int a2)]) rfl ?_
        exact Jj9 _ h
      · replace h := h.2 c12
        refine r_iconst (v := 1) X (x_dr DX6_never 37 rfl) (by decide) ?_
        refine r_iload_n X (x_dr DX6_never 38 rfl) 2 rfl rfl ?_
        refine r_ishl X (x_dr DX6_never 39 rfl) ?_
        refine r_goto X 77 (x_dr DX6_never 40 rfl) (by decide) ?_
        refine r_norm X [0, 2] ([(0, .ref (ad 0 0 0)), (2, .int a2)]) rfl ?_
        exact Jj9 _ h
set_option maxRecDepth 10000 in
theorem k6_never {ad : xAd} {G : xG} {l : Launch} {σ : xSt} {Q : Int32 → xSt → Prop}  (h : d6_never σ Q) : MC ad G l yX6_never cX6_never 3 (some .int) 3 70 [.ref (ad 0 0 0)] σ (qI Q) := by
  unfold d6_never at h
  refine x_MC [(0, .ref (ad 0 0 0))] (by decide +kernel) rfl (Nat.le_of_ble_eq_true rfl) ?_
  intro E hG hl X
  replace X : FX ad E cX6_never 3 RX6 (some .int) 3 70 := X
  refine r_iconst (v := 0) X (x_dr DX6_never 0 rfl) (by decide) ?_
  refine r_istore_n X ([(1, .int 0), (0, .ref (ad 0 0 0))]) (x_dr DX6_never 1 rfl) rfl (by decide) rfl ?_
  refine r_aload_n X (x_dr DX6_never 2 rfl) 1 rfl rfl ?_
  refine gf_6_28 X rfl (x_dr DX6_never 3 rfl) ?_
  refine r_aload_n X (x_dr DX6_never 4 rfl) 1 rfl rfl ?_
  refine gf_6_24 X rfl (x_dr DX6_never 5 rfl) ?_
  refine cl1_takeAll X (k1_takeAll rfl rfl h) rfl ml_6_233 ⟨Nat.le_of_ble_eq_true rfl, Nat.le_of_ble_eq_true rfl⟩ (Nat.le_of_ble_eq_true rfl) (x_dr DX6_never 6 rfl) (fun s1 h => ?_)
  refine r_iconst (v := 0) X (x_dr DX6_never 7 rfl) (by decide) ?_
  refine r_istore_n X ([(2, .int 0), (1, .int 0), (0, .ref (ad 0 0 0))]) (x_dr DX6_never 8 rfl) rfl (by decide) rfl ?_
  refine r_norm X [2, 1, 0] ([(0, .ref (ad 0 0 0)), (1, .int 0), (2, .int 0)]) rfl ?_
  refine w6_never_L15 X  _ _ _ _ h (fun v14 s13 h => ?_)
  refine r_iload_n X (x_dr DX6_never 46 rfl) 0 rfl rfl ?_
  exact r_iret X rfl (x_dr DX6_never 47 rfl) ⟨_, rfl, h⟩
set_option maxRecDepth 10000 in
theorem w6_sortsThatFit_L15 {ad : xAd} {E : xE} (X : FX ad E cX6_sortsThatFit 4 RX6 (some .int) 3 70)   {a1 : Int32} {K : Int32 → xSt → Prop} {Q : Int32 → xSt → Prop} : ∀ (n : Nat) (a2 : Int32) (a3 : Int32) (σ : xSt), d6_sortsThatFit_L15 a1 K Q n a2 a3 σ → (∀ (a2 : Int32) (s : xSt), K a2 s → KK ad E (qI Q) 72 ([(2, .int a2)]) [] s) → KK ad E (qI Q) 15 ([(0, .ref (ad 0 0 0)), (1, .int a1), (2, .int a2), (3, .int a3)]) [] σ := by
  intro n
  induction n with
  | zero => intro a2 a3 σ h kk; exact h.elim
  | succ n ih =>
    intro a2 a3 σ h kk
    rw [d6_sortsThatFit_L15] at h
    refine r_iload_n X (x_dr DX6_sortsThatFit 9 rfl) 3 rfl rfl ?_
    refine r_iconst (v := 3) X (x_dr DX6_sortsThatFit 10 rfl) (by decide) ?_
    refine r_icmp_ge X 72 (x_dr DX6_sortsThatFit 11 rfl) (by decide) (fun c2 => ?_) (fun c2 => ?_)
    · replace h := h.1 c2
      refine r_norm X [2] ([(2, .int a2)]) rfl ?_
      exact kk _ _ h
    · replace h := h.2 c2
      refine r_aload_n X (x_dr DX6_sortsThatFit 12 rfl) 0 rfl rfl ?_
      refine gf_6_28 X rfl (x_dr DX6_sortsThatFit 13 rfl) ?_
      refine r_iload_n X (x_dr DX6_sortsThatFit 14 rfl) 1 rfl rfl ?_
      refine r_iload_n X (x_dr DX6_sortsThatFit 15 rfl) 3 rfl rfl ?_
      refine cl1_setSort X (k1_setSort rfl h) rfl ml_6_361 ⟨Nat.le_of_ble_eq_true rfl, Nat.le_of_ble_eq_true rfl⟩ (Nat.le_of_ble_eq_true rfl) (x_dr DX6_sortsThatFit 16 rfl) (fun s3 h => ?_)
      refine r_aload_n X (x_dr DX6_sortsThatFit 17 rfl) 0 rfl rfl ?_
      refine gf_6_38 X rfl (x_dr DX6_sortsThatFit 18 rfl) ?_
      refine r_aload_n X (x_dr DX6_sortsThatFit 19 rfl) 0 rfl rfl ?_
      refine gf_6_28 X rfl (x_dr DX6_sortsThatFit 20 rfl) ?_
      refine r_bipush (v := 20) X (x_dr DX6_sortsThatFit 21 rfl) (by decide) ?_
      refine cl2_sit X (k2_sit rfl rfl h) rfl ml_6_241 ⟨Nat.le_of_ble_eq_true rfl, Nat.le_of_ble_eq_true rfl⟩ (Nat.le_of_ble_eq_true rfl) (x_dr DX6_sortsThatFit 22 rfl) (fun s4 h => ?_)
      refine r_iload_n X (x_dr DX6_sortsThatFit 23 rfl) 2 rfl rfl ?_
      refine r_aload_n X (x_dr DX6_sortsThatFit 24 rfl) 0 rfl rfl ?_
      refine gf_6_44 X rfl (x_dr DX6_sortsThatFit 25 rfl) ?_
      refine r_aload_n X (x_dr DX6_sortsThatFit 26 rfl) 0 rfl rfl ?_
      refine gf_6_38 X rfl (x_dr DX6_sortsThatFit 27 rfl) ?_
      refine cl4_comeOutSo X (k4_comeOutSo rfl h) rfl ml_6_244 ⟨Nat.le_of_ble_eq_true rfl, Nat.le_of_ble_eq_true rfl⟩ (Nat.le_of_ble_eq_true rfl) (x_dr DX6_sortsThatFit 28 rfl) (fun v6 s5 zv6 h => ?_)
      obtain ⟨j9, ej9, h⟩ := x_jn h
      have Jj9 : ∀ (v8 : Int32), j9 v8 → KK ad E (qI Q) 64 ([(0, .ref (ad 0 0 0)), (1, .int a1), (3, .int a3)]) [.int v8, .int a2] s5 := by
        intro v8 h
        rw [ej9] at h
        refine r_ior X (x_dr DX6_sortsThatFit 35 rfl) ?_
        refine r_nmI (fun v10 ev10 => ?_)
        replace h := h v10 ev10
        refine r_istore_n X ([(2, .int v10), (0, .ref (ad 0 0 0)), (1, .int a1), (3, .int a3)]) (x_dr DX6_sortsThatFit 36 rfl) rfl (by decide) rfl ?_
        obtain ⟨v11, ev11⟩ : ∃ z : Int32, z = a3 + 1 := ⟨_, rfl⟩
        replace h := h v11 ev11
        refine r_iinc (v := v11) X ([(3, .int v11), (2, .int v10), (0, .ref (ad 0 0 0)), (1, .int a1)]) 3 (x_dr DX6_sortsThatFit 37 rfl) rfl (by rw [ev11]; rfl) (by decide) rfl ?_
        refine r_goto X 15 (x_dr DX6_sortsThatFit 38 rfl) (by decide) ?_
        refine r_norm X [2, 3, 1, 0] ([(0, .ref (ad 0 0 0)), (1, .int a1), (2, .int v10), (3, .int v11)]) rfl ?_
        exact ih _ _ _ h kk
      refine r_if_eq X 63 (x_dr DX6_sortsThatFit 29 rfl) (by decide) (fun c12 => ?_) (fun c12 => ?_)
      · replace h := h.1 c12
        refine r_iconst (v := 0) X (x_dr DX6_sortsThatFit 34 rfl) (by decide) ?_
        refine r_norm X [0, 1, 3] ([(0, .ref (ad 0 0 0)), (1, .int a1), (3, .int a3)]) rfl ?_
        exact Jj9 _ h
      · replace h := h.2 c12
        refine r_iconst (v := 1) X (x_dr DX6_sortsThatFit 30 rfl) (by decide) ?_
        refine r_iload_n X (x_dr DX6_sortsThatFit 31 rfl) 3 rfl rfl ?_
        refine r_ishl X (x_dr DX6_sortsThatFit 32 rfl) ?_
        refine r_goto X 64 (x_dr DX6_sortsThatFit 33 rfl) (by decide) ?_
        refine r_norm X [0, 1, 3] ([(0, .ref (ad 0 0 0)), (1, .int a1), (3, .int a3)]) rfl ?_
        exact Jj9 _ h
set_option maxRecDepth 10000 in
theorem k6_sortsThatFit {ad : xAd} {G : xG} {l : Launch} {a1 : Int32} {σ : xSt} {Q : Int32 → xSt → Prop}  (h : d6_sortsThatFit a1 σ Q) : MC ad G l yX6_sortsThatFit cX6_sortsThatFit 4 (some .int) 3 70 [.ref (ad 0 0 0), .int a1] σ (qI Q) := by
  unfold d6_sortsThatFit at h
  refine x_MC [(0, .ref (ad 0 0 0)), (1, .int a1)] (by decide +kernel) rfl (Nat.le_of_ble_eq_true rfl) ?_
  intro E hG hl X
  replace X : FX ad E cX6_sortsThatFit 4 RX6 (some .int) 3 70 := X
  refine r_iconst (v := 0) X (x_dr DX6_sortsThatFit 0 rfl) (by decide) ?_
  refine r_istore_n X ([(2, .int 0), (0, .ref (ad 0 0 0)), (1, .int a1)]) (x_dr DX6_sortsThatFit 1 rfl) rfl (by decide) rfl ?_
  refine r_aload_n X (x_dr DX6_sortsThatFit 2 rfl) 1 rfl rfl ?_
  refine gf_6_28 X rfl (x_dr DX6_sortsThatFit 3 rfl) ?_
  refine r_aload_n X (x_dr DX6_sortsThatFit 4 rfl) 1 rfl rfl ?_
  refine gf_6_24 X rfl (x_dr DX6_sortsThatFit 5 rfl) ?_
  refine cl1_takeAll X (k1_takeAll rfl rfl h) rfl ml_6_233 ⟨Nat.le_of_ble_eq_true rfl, Nat.le_of_ble_eq_true rfl⟩ (Nat.le_of_ble_eq_true rfl) (x_dr DX6_sortsThatFit 6 rfl) (fun s1 h => ?_)
  refine r_iconst (v := 0) X (x_dr DX6_sortsThatFit 7 rfl) (by decide) ?_
  refine r_istore_n X ([(3, .int 0), (2, .int 0), (0, .ref (ad 0 0 0)), (1, .int a1)]) (x_dr DX6_sortsThatFit 8 rfl) rfl (by decide) rfl ?_
  refine r_norm X [2, 3, 1, 0] ([(0, .ref (ad 0 0 0)), (1, .int a1), (2, .int 0), (3, .int 0)]) rfl ?_
  refine w6_sortsThatFit_L15 X  _ _ _ _ h (fun v14 s13 h => ?_)
  refine r_iload_n X (x_dr DX6_sortsThatFit 39 rfl) 0 rfl rfl ?_
  exact r_iret X rfl (x_dr DX6_sortsThatFit 40 rfl) ⟨_, rfl, h⟩
set_option maxRecDepth 10000 in
theorem k6_sort {ad : xAd} {G : xG} {l : Launch} {a1 : Int32} {σ : xSt} {Q : Int32 → xSt → Prop}  (h : d6_sort a1 σ Q) : MC ad G l yX6_sort cX6_sort 2 (some .int) 4 93 [.ref (ad 0 0 0), .int a1] σ (qI Q) := by
  unfold d6_sort at h
  refine x_MC [(0, .ref (ad 0 0 0)), (1, .int a1)] (by decide +kernel) rfl (Nat.le_of_ble_eq_true rfl) ?_
  intro E hG hl X
  replace X : FX ad E cX6_sort 2 RX6 (some .int) 4 93 := X
  refine r_aload_n X (x_dr DX6_sort 0 rfl) 0 rfl rfl ?_
  refine gf_6_24 X rfl (x_dr DX6_sort 1 rfl) ?_
  refine r_iload_n X (x_dr DX6_sort 2 rfl) 1 rfl rfl ?_
  refine cl1_hasMember X (k1_hasMember rfl h) rfl ml_6_109 ⟨Nat.le_of_ble_eq_true rfl, Nat.le_of_ble_eq_true rfl⟩ (Nat.le_of_ble_eq_true rfl) (x_dr DX6_sort 3 rfl) (fun v2 s1 zv2 h => ?_)
  refine r_if_eq X 19 (x_dr DX6_sort 4 rfl) (by decide) (fun c3 => ?_) (fun c3 => ?_)
  · replace h := h.1 c3
    refine r_bipush (v := (-2)) X (x_dr DX6_sort 9 rfl) (by decide) ?_
    exact r_iret X rfl (x_dr DX6_sort 10 rfl) ⟨_, rfl, h⟩
  · replace h := h.2 c3
    refine r_aload_n X (x_dr DX6_sort 5 rfl) 0 rfl rfl ?_
    refine r_iload_n X (x_dr DX6_sort 6 rfl) 1 rfl rfl ?_
    refine cl6_sortsThatFit X (k6_sortsThatFit h) rfl ml_6_248 ⟨Nat.le_of_ble_eq_true rfl, Nat.le_of_ble_eq_true rfl⟩ (Nat.le_of_ble_eq_true rfl) (x_dr DX6_sort 7 rfl) (fun v5 s4 h => ?_)
    refine r_goto X 21 (x_dr DX6_sort 8 rfl) (by decide) ?_
    exact r_iret X rfl (x_dr DX6_sort 10 rfl) ⟨_, rfl, h⟩
set_option maxRecDepth 10000 in
theorem w6_firstsThatFit_L70 {ad : xAd} {E : xE} (X : FX ad E cX6_firstsThatFit 5 RX6 (some .int) 3 70)   {a1 : Int32} {a2 : Int32} {a3 : Int32} {K : xSt → Prop} {Q : Int32 → xSt → Prop} : ∀ (n : Nat) (a4 : Int32) (σ : xSt), d6_firstsThatFit_L70 a1 a2 a3 K Q n a4 σ → (∀ (s : xSt), K  s → KK ad E (qI Q) 102 ([(0, .ref (ad 0 0 0)), (1, .int a1), (2, .int a2), (3, .int a3)]) [] s) → KK ad E (qI Q) 70 ([(0, .ref (ad 0 0 0)), (1, .int a1), (2, .int a2), (3, .int a3), (4, .int a4)]) [] σ := by
  intro n
  induction n with
  | zero => intro a4 σ h kk; exact h.elim
  | succ n ih =>
    intro a4 σ h kk
    rw [d6_firstsThatFit_L70] at h
    refine r_iload X (x_dr DX6_firstsThatFit 39 rfl) 4 rfl ?_
    refine r_bipush (v := 20) X (x_dr DX6_firstsThatFit 40 rfl) (by decide) ?_
    refine r_icmp_ge X 102 (x_dr DX6_firstsThatFit 41 rfl) (by decide) (fun c11 => ?_) (fun c11 => ?_)
    · replace h := h.1 c11
      refine r_norm X [0, 1, 2, 3] ([(0, .ref (ad 0 0 0)), (1, .int a1), (2, .int a2), (3, .int a3)]) rfl ?_
      exact kk  _ h
    · replace h := h.2 c11
      refine r_aload_n X (x_dr DX6_firstsThatFit 42 rfl) 0 rfl rfl ?_
      refine gf_6_63 X rfl (x_dr DX6_firstsThatFit 43 rfl) ?_
      refine r_iload X (x_dr DX6_firstsThatFit 44 rfl) 4 rfl ?_
      obtain ⟨b12, h⟩ := h
      refine r_aald X rfl (n := 10) rfl b12 (x_dr DX6_firstsThatFit 45 rfl) ?_
      refine r_iload_n X (x_dr DX6_firstsThatFit 46 rfl) 3 rfl rfl ?_
      refine r_aload_n X (x_dr DX6_firstsThatFit 47 rfl) 0 rfl rfl ?_
      refine gf_6_38 X rfl (x_dr DX6_firstsThatFit 48 rfl) ?_
      refine r_iload X (x_dr DX6_firstsThatFit 49 rfl) 4 rfl ?_
      refine r_iload_n X (x_dr DX6_firstsThatFit 50 rfl) 1 rfl rfl ?_
      refine cl2_dampOf X (k2_dampOf rfl h) rfl ml_6_159 ⟨Nat.le_of_ble_eq_true rfl, Nat.le_of_ble_eq_true rfl⟩ (Nat.le_of_ble_eq_true rfl) (x_dr DX6_firstsThatFit 51 rfl) (fun v14 s13 h => ?_)
      obtain ⟨b15, h⟩ := h
      refine r_iast2 X rfl rfl b12 b15 (x_dr DX6_firstsThatFit 52 rfl) ?_
      refine r_nmS (fun s16 es16 => ?_)
      replace h := h s16 es16
      obtain ⟨v17, ev17⟩ : ∃ z : Int32, z = a4 + 1 := ⟨_, rfl⟩
      replace h := h v17 ev17
      refine r_iinc (v := v17) X ([(4, .int v17), (0, .ref (ad 0 0 0)), (1, .int a1), (2, .int a2), (3, .int a3)]) 4 (x_dr DX6_firstsThatFit 53 rfl) rfl (by rw [ev17]; rfl) (by decide) rfl ?_
      refine r_goto X 70 (x_dr DX6_firstsThatFit 54 rfl) (by decide) ?_
      refine r_norm X [1, 2, 3, 4, 0] ([(0, .ref (ad 0 0 0)), (1, .int a1), (2, .int a2), (3, .int a3), (4, .int v17)]) rfl ?_
      exact ih _ _ h kk
set_option maxRecDepth 10000 in
theorem w6_firstsThatFit_L15 {ad : xAd} {E : xE} (X : FX ad E cX6_firstsThatFit 5 RX6 (some .int) 3 70)   {a1 : Int32} {K : Int32 → xSt → Prop} {Q : Int32 → xSt → Prop} : ∀ (n : Nat) (a2 : Int32) (a3 : Int32) (σ : xSt), d6_firstsThatFit_L15 a1 K Q n a2 a3 σ → (∀ (a2 : Int32) (s : xSt), K a2 s → KK ad E (qI Q) 108 ([(2, .int a2)]) [] s) → KK ad E (qI Q) 15 ([(0, .ref (ad 0 0 0)), (1, .int a1), (2, .int a2), (3, .int a3)]) [] σ := by
  intro n
  induction n with
  | zero => intro a2 a3 σ h kk; exact h.elim
  | succ n ih =>
    intro a2 a3 σ h kk
    rw [d6_firstsThatFit_L15] at h
    refine r_iload_n X (x_dr DX6_firstsThatFit 9 rfl) 3 rfl rfl ?_
    refine r_bipush (v := 9) X (x_dr DX6_firstsThatFit 10 rfl) (by decide) ?_
    refine r_icmp_gt X 108 (x_dr DX6_firstsThatFit 11 rfl) (by decide) (fun c2 => ?_) (fun c2 => ?_)
    · replace h := h.1 c2
      refine r_norm X [2] ([(2, .int a2)]) rfl ?_
      exact kk _ _ h
    · replace h := h.2 c2
      refine r_aload_n X (x_dr DX6_firstsThatFit 12 rfl) 0 rfl rfl ?_
      refine gf_6_28 X rfl (x_dr DX6_firstsThatFit 13 rfl) ?_
      refine r_iload_n X (x_dr DX6_firstsThatFit 14 rfl) 1 rfl rfl ?_
      refine r_iload_n X (x_dr DX6_firstsThatFit 15 rfl) 3 rfl rfl ?_
      refine cl1_setDamp X (k1_setDamp rfl h) rfl ml_6_337 ⟨Nat.le_of_ble_eq_true rfl, Nat.le_of_ble_eq_true rfl⟩ (Nat.le_of_ble_eq_true rfl) (x_dr DX6_firstsThatFit 16 rfl) (fun s3 h => ?_)
      refine r_aload_n X (x_dr DX6_firstsThatFit 17 rfl) 0 rfl rfl ?_
      refine gf_6_38 X rfl (x_dr DX6_firstsThatFit 18 rfl) ?_
      refine r_aload_n X (x_dr DX6_firstsThatFit 19 rfl) 0 rfl rfl ?_
      refine gf_6_28 X rfl (x_dr DX6_firstsThatFit 20 rfl) ?_
      refine r_bipush (v := 20) X (x_dr DX6_firstsThatFit 21 rfl) (by decide) ?_
      refine cl2_sit X (k2_sit rfl rfl h) rfl ml_6_241 ⟨Nat.le_of_ble_eq_true rfl, Nat.le_of_ble_eq_true rfl⟩ (Nat.le_of_ble_eq_true rfl) (x_dr DX6_firstsThatFit 22 rfl) (fun s4 h => ?_)
      refine r_iload_n X (x_dr DX6_firstsThatFit 23 rfl) 2 rfl rfl ?_
      refine r_aload_n X (x_dr DX6_firstsThatFit 24 rfl) 0 rfl rfl ?_
      refine gf_6_44 X rfl (x_dr DX6_firstsThatFit 25 rfl) ?_
      refine r_aload_n X (x_dr DX6_firstsThatFit 26 rfl) 0 rfl rfl ?_
      refine gf_6_38 X rfl (x_dr DX6_firstsThatFit 27 rfl) ?_
      refine cl4_comeOutSo X (k4_comeOutSo rfl h) rfl ml_6_244 ⟨Nat.le_of_ble_eq_true rfl, Nat.le_of_ble_eq_true rfl⟩ (Nat.le_of_ble_eq_true rfl) (x_dr DX6_firstsThatFit 28 rfl) (fun v6 s5 zv6 h => ?_)
      obtain ⟨j9, ej9, h⟩ := x_jn h
      have Jj9 : ∀ (v8 : Int32), j9 v8 → KK ad E (qI Q) 65 ([(0, .ref (ad 0 0 0)), (1, .int a1), (3, .int a3)]) [.int v8, .int a2] s5 := by
        intro v8 h
        rw [ej9] at h
        refine r_ior X (x_dr DX6_firstsThatFit 35 rfl) ?_
        refine r_nmI (fun v10 ev10 => ?_)
        replace h := h v10 ev10
        refine r_istore_n X ([(2, .int v10), (0, .ref (ad 0 0 0)), (1, .int a1), (3, .int a3)]) (x_dr DX6_firstsThatFit 36 rfl) rfl (by decide) rfl ?_
        refine r_iconst (v := 0) X (x_dr DX6_firstsThatFit 37 rfl) (by decide) ?_
        refine r_istore X ([(4, .int 0), (2, .int v10), (0, .ref (ad 0 0 0)), (1, .int a1), (3, .int a3)]) (x_dr DX6_firstsThatFit 38 rfl) (by decide) rfl ?_
        refine r_norm X [2, 3, 1, 4, 0] ([(0, .ref (ad 0 0 0)), (1, .int a1), (2, .int v10), (3, .int a3), (4, .int 0)]) rfl ?_
        refine w6_firstsThatFit_L70 X  _ _ _ h (fun s18 h => ?_)
        obtain ⟨v19, ev19⟩ : ∃ z : Int32, z = a3 + 1 := ⟨_, rfl⟩
        replace h := h v19 ev19
        refine r_iinc (v := v19) X ([(3, .int v19), (0, .ref (ad 0 0 0)), (1, .int a1), (2, .int v10)]) 3 (x_dr DX6_firstsThatFit 55 rfl) rfl (by rw [ev19]; rfl) (by decide) rfl ?_
        refine r_goto X 15 (x_dr DX6_firstsThatFit 56 rfl) (by decide) ?_
        refine r_norm X [1, 2, 3, 0] ([(0, .ref (ad 0 0 0)), (1, .int a1), (2, .int v10), (3, .int v19)]) rfl ?_
        exact ih _ _ _ h kk
      refine r_if_eq X 64 (x_dr DX6_firstsThatFit 29 rfl) (by decide) (fun c20 => ?_) (fun c20 => ?_)
      · replace h := h.1 c20
        refine r_iconst (v := 0) X (x_dr DX6_firstsThatFit 34 rfl) (by decide) ?_
        refine r_norm X [0, 1, 3] ([(0, .ref (ad 0 0 0)), (1, .int a1), (3, .int a3)]) rfl ?_
        exact Jj9 _ h
      · replace h := h.2 c20
        refine r_iconst (v := 1) X (x_dr DX6_firstsThatFit 30 rfl) (by decide) ?_
        refine r_iload_n X (x_dr DX6_firstsThatFit 31 rfl) 3 rfl rfl ?_
        refine r_ishl X (x_dr DX6_firstsThatFit 32 rfl) ?_
        refine r_goto X 65 (x_dr DX6_firstsThatFit 33 rfl) (by decide) ?_
        refine r_norm X [0, 1, 3] ([(0, .ref (ad 0 0 0)), (1, .int a1), (3, .int a3)]) rfl ?_
        exact Jj9 _ h
set_option maxRecDepth 10000 in
theorem k6_firstsThatFit {ad : xAd} {G : xG} {l : Launch} {a1 : Int32} {σ : xSt} {Q : Int32 → xSt → Prop}  (h : d6_firstsThatFit a1 σ Q) : MC ad G l yX6_firstsThatFit cX6_firstsThatFit 5 (some .int) 3 70 [.ref (ad 0 0 0), .int a1] σ (qI Q) := by
  unfold d6_firstsThatFit at h
  refine x_MC [(0, .ref (ad 0 0 0)), (1, .int a1)] (by decide +kernel) rfl (Nat.le_of_ble_eq_true rfl) ?_
  intro E hG hl X
  replace X : FX ad E cX6_firstsThatFit 5 RX6 (some .int) 3 70 := X
  refine r_iconst (v := 0) X (x_dr DX6_firstsThatFit 0 rfl) (by decide) ?_
  refine r_istore_n X ([(2, .int 0), (0, .ref (ad 0 0 0)), (1, .int a1)]) (x_dr DX6_firstsThatFit 1 rfl) rfl (by decide) rfl ?_
  refine r_aload_n X (x_dr DX6_firstsThatFit 2 rfl) 1 rfl rfl ?_
  refine gf_6_28 X rfl (x_dr DX6_firstsThatFit 3 rfl) ?_
  refine r_aload_n X (x_dr DX6_firstsThatFit 4 rfl) 1 rfl rfl ?_
  refine gf_6_24 X rfl (x_dr DX6_firstsThatFit 5 rfl) ?_
  refine cl1_takeAll X (k1_takeAll rfl rfl h) rfl ml_6_233 ⟨Nat.le_of_ble_eq_true rfl, Nat.le_of_ble_eq_true rfl⟩ (Nat.le_of_ble_eq_true rfl) (x_dr DX6_firstsThatFit 6 rfl) (fun s1 h => ?_)
  refine r_iconst (v := 0) X (x_dr DX6_firstsThatFit 7 rfl) (by decide) ?_
  refine r_istore_n X ([(3, .int 0), (2, .int 0), (0, .ref (ad 0 0 0)), (1, .int a1)]) (x_dr DX6_firstsThatFit 8 rfl) rfl (by decide) rfl ?_
  refine r_norm X [2, 3, 1, 0] ([(0, .ref (ad 0 0 0)), (1, .int a1), (2, .int 0), (3, .int 0)]) rfl ?_
  refine w6_firstsThatFit_L15 X  _ _ _ _ h (fun v22 s21 h => ?_)
  refine r_iload_n X (x_dr DX6_firstsThatFit 57 rfl) 0 rfl rfl ?_
  exact r_iret X rfl (x_dr DX6_firstsThatFit 58 rfl) ⟨_, rfl, h⟩
set_option maxRecDepth 10000 in
theorem k6_wet {ad : xAd} {G : xG} {l : Launch} {a1 : Int32} {σ : xSt} {Q : Int32 → xSt → Prop}  (h : d6_wet a1 σ Q) : MC ad G l yX6_wet cX6_wet 2 (some .int) 4 94 [.ref (ad 0 0 0), .int a1] σ (qI Q) := by
  unfold d6_wet at h
  refine x_MC [(0, .ref (ad 0 0 0)), (1, .int a1)] (by decide +kernel) rfl (Nat.le_of_ble_eq_true rfl) ?_
  intro E hG hl X
  replace X : FX ad E cX6_wet 2 RX6 (some .int) 4 94 := X
  refine r_iload_n X (x_dr DX6_wet 0 rfl) 1 rfl rfl ?_
  refine cl6_isPlace X (k6_isPlace h) ml_6_102 ⟨Nat.le_of_ble_eq_true rfl, Nat.le_of_ble_eq_true rfl⟩ (Nat.le_of_ble_eq_true rfl) (x_dr DX6_wet 1 rfl) (fun v2 s1 zv2 h => ?_)
  refine r_if_eq X 15 (x_dr DX6_wet 2 rfl) (by decide) (fun c3 => ?_) (fun c3 => ?_)
  · replace h := h.1 c3
    refine r_bipush (v := (-2)) X (x_dr DX6_wet 7 rfl) (by decide) ?_
    exact r_iret X rfl (x_dr DX6_wet 8 rfl) ⟨_, rfl, h⟩
  · replace h := h.2 c3
    refine r_aload_n X (x_dr DX6_wet 3 rfl) 0 rfl rfl ?_
    refine r_iload_n X (x_dr DX6_wet 4 rfl) 1 rfl rfl ?_
    refine cl6_firstsThatFit X (k6_firstsThatFit h) rfl ml_6_251 ⟨Nat.le_of_ble_eq_true rfl, Nat.le_of_ble_eq_true rfl⟩ (Nat.le_of_ble_eq_true rfl) (x_dr DX6_wet 5 rfl) (fun v5 s4 h => ?_)
    refine r_goto X 17 (x_dr DX6_wet 6 rfl) (by decide) ?_
    exact r_iret X rfl (x_dr DX6_wet 8 rfl) ⟨_, rfl, h⟩
set_option maxRecDepth 10000 in
theorem w6_mostAlike_L11 {ad : xAd} {E : xE} (X : FX ad E cX6_mostAlike 6 RX6 (some .int) 1 21)   {a1 : Int32} {a2 : Int32} {K : xSt → Prop} {Q : Int32 → xSt → Prop} : ∀ (n : Nat) (a3 : Int32) (σ : xSt), d6_mostAlike_L11 a1 a2 K Q n a3 σ → (∀ (s : xSt), K  s → KK ad E (qI Q) 30 ([(0, .ref (ad 0 0 0)), (1, .int a1), (2, .int a2)]) [] s) → KK ad E (qI Q) 11 ([(0, .ref (ad 0 0 0)), (1, .int a1), (2, .int a2), (3, .int a3)]) [] σ := by
  intro n
  induction n with
  | zero => intro a3 σ h kk; exact h.elim
  | succ n ih =>
    intro a3 σ h kk
    rw [d6_mostAlike_L11] at h
    refine r_iload_n X (x_dr DX6_mostAlike 7 rfl) 3 rfl rfl ?_
    refine r_bipush (v := 9) X (x_dr DX6_mostAlike 8 rfl) (by decide) ?_
    refine r_icmp_gt X 30 (x_dr DX6_mostAlike 9 rfl) (by decide) (fun c4 => ?_) (fun c4 => ?_)
    · replace h := h.1 c4
      refine r_norm X [0, 1, 2] ([(0, .ref (ad 0 0 0)), (1, .int a1), (2, .int a2)]) rfl ?_
      exact kk  _ h
    · replace h := h.2 c4
      refine r_aload_n X (x_dr DX6_mostAlike 10 rfl) 0 rfl rfl ?_
      refine gf_6_66 X rfl (x_dr DX6_mostAlike 11 rfl) ?_
      refine r_iload_n X (x_dr DX6_mostAlike 12 rfl) 3 rfl rfl ?_
      refine r_iconst (v := 0) X (x_dr DX6_mostAlike 13 rfl) (by decide) ?_
      obtain ⟨b5, h⟩ := h
      refine r_iast X rfl rfl b5 (x_dr DX6_mostAlike 14 rfl) ?_
      refine r_nmS (fun s6 es6 => ?_)
      replace h := h s6 es6
      obtain ⟨v7, ev7⟩ : ∃ z : Int32, z = a3 + 1 := ⟨_, rfl⟩
      replace h := h v7 ev7
      refine r_iinc (v := v7) X ([(3, .int v7), (0, .ref (ad 0 0 0)), (1, .int a1), (2, .int a2)]) 3 (x_dr DX6_mostAlike 15 rfl) rfl (by rw [ev7]; rfl) (by decide) rfl ?_
      refine r_goto X 11 (x_dr DX6_mostAlike 16 rfl) (by decide) ?_
      refine r_norm X [1, 2, 3, 0] ([(0, .ref (ad 0 0 0)), (1, .int a1), (2, .int a2), (3, .int v7)]) rfl ?_
      exact ih _ _ h kk
set_option maxRecDepth 10000 in
theorem w6_mostAlike_L35 {ad : xAd} {E : xE} (X : FX ad E cX6_mostAlike 6 RX6 (some .int) 1 21)   {a1 : Int32} {a2 : Int32} {K : Int32 → xSt → Prop} {Q : Int32 → xSt → Prop} : ∀ (n : Nat) (a3 : Int32) (a4 : Int32) (σ : xSt), d6_mostAlike_L35 a1 a2 K Q n a3 a4 σ → (∀ (a3 : Int32) (s : xSt), K a3 s → KK ad E (qI Q) 104 ([(3, .int a3)]) [] s) → KK ad E (qI Q) 35 ([(0, .ref (ad 0 0 0)), (1, .int a1), (2, .int a2), (3, .int a3), (4, .int a4)]) [] σ := by
  intro n
  induction n with
  | zero => intro a3 a4 σ h kk; exact h.elim
  | succ n ih =>
    intro a3 a4 σ h kk
    rw [d6_mostAlike_L35] at h
    refine r_iload X (x_dr DX6_mostAlike 21 rfl) 4 rfl ?_
    refine r_bipush (v := 9) X (x_dr DX6_mostAlike 22 rfl) (by decide) ?_
    refine r_icmp_gt X 104 (x_dr DX6_mostAlike 23 rfl) (by decide) (fun c9 => ?_) (fun c9 => ?_)
    · replace h := h.1 c9
      refine r_norm X [3] ([(3, .int a3)]) rfl ?_
      exact kk _ _ h
    · replace h := h.2 c9
      refine r_aload_n X (x_dr DX6_mostAlike 24 rfl) 0 rfl rfl ?_
      refine gf_6_63 X rfl (x_dr DX6_mostAlike 25 rfl) ?_
      refine r_iload_n X (x_dr DX6_mostAlike 26 rfl) 2 rfl rfl ?_
      obtain ⟨b10, h⟩ := h
      refine r_aald X rfl (n := 10) rfl b10 (x_dr DX6_mostAlike 27 rfl) ?_
      refine r_iload X (x_dr DX6_mostAlike 28 rfl) 4 rfl ?_
      obtain ⟨b11, h⟩ := h
      refine r_iald2 X rfl rfl b10 b11 (x_dr DX6_mostAlike 29 rfl) ?_
      refine r_nmI (fun v12 ev12 => ?_)
      replace h := h v12 ev12
      refine r_istore X ([(5, .int v12), (0, .ref (ad 0 0 0)), (1, .int a1), (2, .int a2), (3, .int a3), (4, .int a4)]) (x_dr DX6_mostAlike 30 rfl) (by decide) rfl ?_
      refine r_iload_n X (x_dr DX6_mostAlike 31 rfl) 2 rfl rfl ?_
      refine r_iload X (x_dr DX6_mostAlike 32 rfl) 5 rfl ?_
      refine r_ishr X (x_dr DX6_mostAlike 33 rfl) ?_
      refine r_iconst (v := 1) X (x_dr DX6_mostAlike 34 rfl) (by decide) ?_
      refine r_iand X (x_dr DX6_mostAlike 35 rfl) ?_
      refine r_iconst (v := 1) X (x_dr DX6_mostAlike 36 rfl) (by decide) ?_
      refine r_icmp_ne X 98 (x_dr DX6_mostAlike 37 rfl) (by decide) (fun c13 => ?_) (fun c13 => ?_)
      · replace h := h.1 c13
        obtain ⟨v14, ev14⟩ : ∃ z : Int32, z = a4 + 1 := ⟨_, rfl⟩
        replace h := h v14 ev14
        refine r_iinc (v := v14) X ([(4, .int v14), (5, .int v12), (0, .ref (ad 0 0 0)), (1, .int a1), (2, .int a2), (3, .int a3)]) 5 (x_dr DX6_mostAlike 58 rfl) rfl (by rw [ev14]; rfl) (by decide) rfl ?_
        refine r_goto X 35 (x_dr DX6_mostAlike 59 rfl) (by decide) ?_
        refine r_norm X [2, 3, 4, 5, 0] ([(0, .ref (ad 0 0 0)), (1, .int a1), (2, .int a2), (3, .int a3), (4, .int v14)]) rfl ?_
        exact ih _ _ _ h kk
      · replace h := h.2 c13
        refine r_iload X (x_dr DX6_mostAlike 38 rfl) 0 rfl ?_
        refine r_if_lt X 98 (x_dr DX6_mostAlike 39 rfl) (by decide) (fun c15 => ?_) (fun c15 => ?_)
        · replace h := h.1 c15
          obtain ⟨v16, ev16⟩ : ∃ z : Int32, z = a4 + 1 := ⟨_, rfl⟩
          replace h := h v16 ev16
          refine r_iinc (v := v16) X ([(4, .int v16), (5, .int v12), (0, .ref (ad 0 0 0)), (1, .int a1), (2, .int a2), (3, .int a3)]) 5 (x_dr DX6_mostAlike 58 rfl) rfl (by rw [ev16]; rfl) (by decide) rfl ?_
          refine r_goto X 35 (x_dr DX6_mostAlike 59 rfl) (by decide) ?_
          refine r_norm X [2, 3, 4, 5, 0] ([(0, .ref (ad 0 0 0)), (1, .int a1), (2, .int a2), (3, .int a3), (4, .int v16)]) rfl ?_
          exact ih _ _ _ h kk
        · replace h := h.2 c15
          refine r_iload X (x_dr DX6_mostAlike 40 rfl) 0 rfl ?_
          refine r_bipush (v := 9) X (x_dr DX6_mostAlike 41 rfl) (by decide) ?_
          refine r_icmp_gt X 98 (x_dr DX6_mostAlike 42 rfl) (by decide) (fun c17 => ?_) (fun c17 => ?_)
          · replace h := h.1 c17
            obtain ⟨v18, ev18⟩ : ∃ z : Int32, z = a4 + 1 := ⟨_, rfl⟩
            replace h := h v18 ev18
            refine r_iinc (v := v18) X ([(4, .int v18), (5, .int v12), (0, .ref (ad 0 0 0)), (1, .int a1), (2, .int a2), (3, .int a3)]) 5 (x_dr DX6_mostAlike 58 rfl) rfl (by rw [ev18]; rfl) (by decide) rfl ?_
            refine r_goto X 35 (x_dr DX6_mostAlike 59 rfl) (by decide) ?_
            refine r_norm X [2, 3, 4, 5, 0] ([(0, .ref (ad 0 0 0)), (1, .int a1), (2, .int a2), (3, .int a3), (4, .int v18)]) rfl ?_
            exact ih _ _ _ h kk
          · replace h := h.2 c17
            refine r_aload_n X (x_dr DX6_mostAlike 43 rfl) 1 rfl rfl ?_
            refine gf_6_66 X rfl (x_dr DX6_mostAlike 44 rfl) ?_
            refine r_iload X (x_dr DX6_mostAlike 45 rfl) 0 rfl ?_
            refine r_dup2 X (x_dr DX6_mostAlike 46 rfl) rfl rfl ?_
            obtain ⟨b19, h⟩ := h
            refine r_iald X rfl rfl b19 (x_dr DX6_mostAlike 47 rfl) ?_
            refine r_iconst (v := 1) X (x_dr DX6_mostAlike 48 rfl) (by decide) ?_
            refine r_iadd X (x_dr DX6_mostAlike 49 rfl) ?_
            obtain ⟨b20, h⟩ := h
            refine r_iast X rfl rfl b20 (x_dr DX6_mostAlike 50 rfl) ?_
            refine r_nmS (fun s21 es21 => ?_)
            replace h := h s21 es21
            refine r_iload_n X (x_dr DX6_mostAlike 51 rfl) 4 rfl rfl ?_
            refine r_aload_n X (x_dr DX6_mostAlike 52 rfl) 1 rfl rfl ?_
            refine gf_6_66 X rfl (x_dr DX6_mostAlike 53 rfl) ?_
            refine r_iload X (x_dr DX6_mostAlike 54 rfl) 0 rfl ?_
            obtain ⟨b22, h⟩ := h
            refine r_iald X rfl rfl b22 (x_dr DX6_mostAlike 55 rfl) ?_
            refine r_mmax X ml_6_367 ⟨Nat.le_of_ble_eq_true rfl, Nat.le_of_ble_eq_true rfl⟩ (x_dr DX6_mostAlike 56 rfl) ?_
            refine r_nmI (fun v23 ev23 => ?_)
            replace h := h v23 ev23
            refine r_istore_n X ([(3, .int v23), (5, .int v12), (0, .ref (ad 0 0 0)), (1, .int a1), (2, .int a2), (4, .int a4)]) (x_dr DX6_mostAlike 57 rfl) rfl (by decide) rfl ?_
            obtain ⟨v24, ev24⟩ : ∃ z : Int32, z = a4 + 1 := ⟨_, rfl⟩
            replace h := h v24 ev24
            refine r_iinc (v := v24) X ([(4, .int v24), (3, .int v23), (5, .int v12), (0, .ref (ad 0 0 0)), (1, .int a1), (2, .int a2)]) 5 (x_dr DX6_mostAlike 58 rfl) rfl (by rw [ev24]; rfl) (by decide) rfl ?_
            refine r_goto X 35 (x_dr DX6_mostAlike 59 rfl) (by decide) ?_
            refine r_norm X [3, 4, 5, 1, 0] ([(0, .ref (ad 0 0 0)), (1, .int a1), (2, .int a2), (3, .int v23), (4, .int v24)]) rfl ?_
            exact ih _ _ _ h kk
set_option maxRecDepth 10000 in
theorem k6_mostAlike {ad : xAd} {G : xG} {l : Launch} {a1 : Int32} {a2 : Int32} {σ : xSt} {Q : Int32 → xSt → Prop}  (h : d6_mostAlike a1 a2 σ Q) : MC ad G l yX6_mostAlike cX6_mostAlike 6 (some .int) 1 21 [.ref (ad 0 0 0), .int a1, .int a2] σ (qI Q) := by
  unfold d6_mostAlike at h
  refine x_MC [(0, .ref (ad 0 0 0)), (1, .int a1), (2, .int a2)] (by decide +kernel) rfl (Nat.le_of_ble_eq_true rfl) ?_
  intro E hG hl X
  replace X : FX ad E cX6_mostAlike 6 RX6 (some .int) 1 21 := X
  refine r_iload_n X (x_dr DX6_mostAlike 0 rfl) 2 rfl rfl ?_
  refine cl6_isHour X (k6_isHour h) ml_6_121 ⟨Nat.le_of_ble_eq_true rfl, Nat.le_of_ble_eq_true rfl⟩ (Nat.le_of_ble_eq_true rfl) (x_dr DX6_mostAlike 1 rfl) (fun v2 s1 zv2 h => ?_)
  refine r_if_ne X 9 (x_dr DX6_mostAlike 2 rfl) (by decide) (fun c3 => ?_) (fun c3 => ?_)
  · replace h := h.1 c3
    refine r_iconst (v := 0) X (x_dr DX6_mostAlike 5 rfl) (by decide) ?_
    refine r_istore_n X ([(3, .int 0), (0, .ref (ad 0 0 0)), (1, .int a1), (2, .int a2)]) (x_dr DX6_mostAlike 6 rfl) rfl (by decide) rfl ?_
    refine r_norm X [1, 2, 3, 0] ([(0, .ref (ad 0 0 0)), (1, .int a1), (2, .int a2), (3, .int 0)]) rfl ?_
    refine w6_mostAlike_L11 X  _ _ _ h (fun s8 h => ?_)
    refine r_iconst (v := 0) X (x_dr DX6_mostAlike 17 rfl) (by decide) ?_
    refine r_istore_n X ([(3, .int 0), (0, .ref (ad 0 0 0)), (1, .int a1), (2, .int a2)]) (x_dr DX6_mostAlike 18 rfl) rfl (by decide) rfl ?_
    refine r_iconst (v := 0) X (x_dr DX6_mostAlike 19 rfl) (by decide) ?_
    refine r_istore X ([(4, .int 0), (3, .int 0), (0, .ref (ad 0 0 0)), (1, .int a1), (2, .int a2)]) (x_dr DX6_mostAlike 20 rfl) (by decide) rfl ?_
    refine r_norm X [2, 3, 4, 1, 0] ([(0, .ref (ad 0 0 0)), (1, .int a1), (2, .int a2), (3, .int 0), (4, .int 0)]) rfl ?_
    refine w6_mostAlike_L35 X  _ _ _ _ h (fun v26 s25 h => ?_)
    refine r_iload_n X (x_dr DX6_mostAlike 60 rfl) 0 rfl rfl ?_
    exact r_iret X rfl (x_dr DX6_mostAlike 61 rfl) ⟨_, rfl, h⟩
  · replace h := h.2 c3
    refine r_iconst (v := 0) X (x_dr DX6_mostAlike 3 rfl) (by decide) ?_
    exact r_iret X rfl (x_dr DX6_mostAlike 4 rfl) ⟨_, rfl, h⟩
set_option maxRecDepth 10000 in
theorem w6_hourToAsk_L9 {ad : xAd} {E : xE} (X : FX ad E cX6_hourToAsk 3 RX6 (some .int) 2 46)   {a1 : Int32} {K : xSt → Prop} {Q : Int32 → xSt → Prop} : ∀ (n : Nat) (a2 : Int32) (σ : xSt), d6_hourToAsk_L9 a1 K Q n a2 σ → (∀ (s : xSt), K  s → KK ad E (qI Q) 38 ([(0, .ref (ad 0 0 0))]) [] s) → KK ad E (qI Q) 9 ([(0, .ref (ad 0 0 0)), (1, .int a1), (2, .int a2)]) [] σ := by
  intro n
  induction n with
  | zero => intro a2 σ h kk; exact h.elim
  | succ n ih =>
    intro a2 σ h kk
    rw [d6_hourToAsk_L9] at h
    refine r_iload_n X (x_dr DX6_hourToAsk 5 rfl) 2 rfl rfl ?_
    refine r_bipush (v := 20) X (x_dr DX6_hourToAsk 6 rfl) (by decide) ?_
    refine r_icmp_ge X 38 (x_dr DX6_hourToAsk 7 rfl) (by decide) (fun c2 => ?_) (fun c2 => ?_)
    · replace h := h.1 c2
      refine r_norm X [0] ([(0, .ref (ad 0 0 0))]) rfl ?_
      exact kk  _ h
    · replace h := h.2 c2
      refine r_aload_n X (x_dr DX6_hourToAsk 8 rfl) 0 rfl rfl ?_
      refine gf_6_51 X rfl (x_dr DX6_hourToAsk 9 rfl) ?_
      refine r_iload_n X (x_dr DX6_hourToAsk 10 rfl) 2 rfl rfl ?_
      refine r_bipush (v := 10) X (x_dr DX6_hourToAsk 11 rfl) (by decide) ?_
      refine r_aload_n X (x_dr DX6_hourToAsk 12 rfl) 0 rfl rfl ?_
      refine r_iload_n X (x_dr DX6_hourToAsk 13 rfl) 1 rfl rfl ?_
      refine r_iload_n X (x_dr DX6_hourToAsk 14 rfl) 2 rfl rfl ?_
      refine cl6_mostAlike X (k6_mostAlike h) rfl ml_6_364 ⟨Nat.le_of_ble_eq_true rfl, Nat.le_of_ble_eq_true rfl⟩ (Nat.le_of_ble_eq_true rfl) (x_dr DX6_hourToAsk 15 rfl) (fun v4 s3 h => ?_)
      refine r_isub X (x_dr DX6_hourToAsk 16 rfl) ?_
      refine cl0_offer X (k0_offer h) rfl ml_6_200 ⟨Nat.le_of_ble_eq_true rfl, Nat.le_of_ble_eq_true rfl⟩ (Nat.le_of_ble_eq_true rfl) (x_dr DX6_hourToAsk 17 rfl) (fun s5 h => ?_)
      obtain ⟨v6, ev6⟩ : ∃ z : Int32, z = a2 + 1 := ⟨_, rfl⟩
      replace h := h v6 ev6
      refine r_iinc (v := v6) X ([(2, .int v6), (0, .ref (ad 0 0 0)), (1, .int a1)]) 2 (x_dr DX6_hourToAsk 18 rfl) rfl (by rw [ev6]; rfl) (by decide) rfl ?_
      refine r_goto X 9 (x_dr DX6_hourToAsk 19 rfl) (by decide) ?_
      refine r_norm X [1, 2, 0] ([(0, .ref (ad 0 0 0)), (1, .int a1), (2, .int v6)]) rfl ?_
      exact ih _ _ h kk
set_option maxRecDepth 10000 in
theorem k6_hourToAsk {ad : xAd} {G : xG} {l : Launch} {a1 : Int32} {σ : xSt} {Q : Int32 → xSt → Prop}  (h : d6_hourToAsk a1 σ Q) : MC ad G l yX6_hourToAsk cX6_hourToAsk 3 (some .int) 2 46 [.ref (ad 0 0 0), .int a1] σ (qI Q) := by
  unfold d6_hourToAsk at h
  refine x_MC [(0, .ref (ad 0 0 0)), (1, .int a1)] (by decide +kernel) rfl (Nat.le_of_ble_eq_true rfl) ?_
  intro E hG hl X
  replace X : FX ad E cX6_hourToAsk 3 RX6 (some .int) 2 46 := X
  refine r_aload_n X (x_dr DX6_hourToAsk 0 rfl) 0 rfl rfl ?_
  refine gf_6_51 X rfl (x_dr DX6_hourToAsk 1 rfl) ?_
  refine cl0_start X (k0_start h) rfl ml_6_197 ⟨Nat.le_of_ble_eq_true rfl, Nat.le_of_ble_eq_true rfl⟩ (Nat.le_of_ble_eq_true rfl) (x_dr DX6_hourToAsk 2 rfl) (fun s1 h => ?_)
  refine r_iconst (v := 0) X (x_dr DX6_hourToAsk 3 rfl) (by decide) ?_
  refine r_istore_n X ([(2, .int 0), (0, .ref (ad 0 0 0)), (1, .int a1)]) (x_dr DX6_hourToAsk 4 rfl) rfl (by decide) rfl ?_
  refine r_norm X [1, 2, 0] ([(0, .ref (ad 0 0 0)), (1, .int a1), (2, .int 0)]) rfl ?_
  refine w6_hourToAsk_L9 X  _ _ _ h (fun s7 h => ?_)
  refine r_aload_n X (x_dr DX6_hourToAsk 20 rfl) 0 rfl rfl ?_
  refine gf_6_51 X rfl (x_dr DX6_hourToAsk 21 rfl) ?_
  refine gf_6_194 X rfl (x_dr DX6_hourToAsk 22 rfl) ?_
  exact r_iret X rfl (x_dr DX6_hourToAsk 23 rfl) ⟨_, rfl, h⟩
set_option maxRecDepth 10000 in
theorem k6_ask {ad : xAd} {G : xG} {l : Launch} {a1 : Int32} {σ : xSt} {Q : Int32 → xSt → Prop}  (h : d6_ask a1 σ Q) : MC ad G l yX6_ask cX6_ask 2 (some .int) 4 94 [.ref (ad 0 0 0), .int a1] σ (qI Q) := by
  unfold d6_ask at h
  refine x_MC [(0, .ref (ad 0 0 0)), (1, .int a1)] (by decide +kernel) rfl (Nat.le_of_ble_eq_true rfl) ?_
  intro E hG hl X
  replace X : FX ad E cX6_ask 2 RX6 (some .int) 4 94 := X
  refine r_iload_n X (x_dr DX6_ask 0 rfl) 1 rfl rfl ?_
  refine cl6_isPlace X (k6_isPlace h) ml_6_102 ⟨Nat.le_of_ble_eq_true rfl, Nat.le_of_ble_eq_true rfl⟩ (Nat.le_of_ble_eq_true rfl) (x_dr DX6_ask 1 rfl) (fun v2 s1 zv2 h => ?_)
  refine r_if_eq X 19 (x_dr DX6_ask 2 rfl) (by decide) (fun c3 => ?_) (fun c3 => ?_)
  · replace h := h.1 c3
    refine r_bipush (v := (-2)) X (x_dr DX6_ask 9 rfl) (by decide) ?_
    exact r_iret X rfl (x_dr DX6_ask 10 rfl) ⟨_, rfl, h⟩
  · replace h := h.2 c3
    refine r_aload_n X (x_dr DX6_ask 3 rfl) 0 rfl rfl ?_
    refine r_aload_n X (x_dr DX6_ask 4 rfl) 0 rfl rfl ?_
    refine r_iload_n X (x_dr DX6_ask 5 rfl) 1 rfl rfl ?_
    refine cl6_firstsThatFit X (k6_firstsThatFit h) rfl ml_6_251 ⟨Nat.le_of_ble_eq_true rfl, Nat.le_of_ble_eq_true rfl⟩ (Nat.le_of_ble_eq_true rfl) (x_dr DX6_ask 6 rfl) (fun v5 s4 h => ?_)
    refine cl6_hourToAsk X (k6_hourToAsk h) rfl ml_6_254 ⟨Nat.le_of_ble_eq_true rfl, Nat.le_of_ble_eq_true rfl⟩ (Nat.le_of_ble_eq_true rfl) (x_dr DX6_ask 7 rfl) (fun v7 s6 h => ?_)
    refine r_goto X 21 (x_dr DX6_ask 8 rfl) (by decide) ?_
    exact r_iret X rfl (x_dr DX6_ask 10 rfl) ⟨_, rfl, h⟩
set_option maxRecDepth 10000 in
theorem w6_waysOf_L5 {ad : xAd} {E : xE} (X : FX ad E cX6_waysOf 6 RX6 (some .long) 0 0)   {a1 : Int32} {a2 : Int32} {K : Int64 → xSt → Prop} {Q : Int64 → xSt → Prop} : ∀ (n : Nat) (a3 : Int64) (a5 : Int32) (σ : xSt), d6_waysOf_L5 a1 a2 K Q n a3 a5 σ → (∀ (a3 : Int64) (s : xSt), K a3 s → KK ad E (qL Q) 46 ([(3, .long a3)]) [] s) → KK ad E (qL Q) 5 ([(0, .ref (ad 0 0 0)), (1, .int a1), (2, .int a2), (3, .long a3), (5, .int a5)]) [] σ := by
  intro n
  induction n with
  | zero => intro a3 a5 σ h kk; exact h.elim
  | succ n ih =>
    intro a3 a5 σ h kk
    rw [d6_waysOf_L5] at h
    refine r_iload X (x_dr DX6_waysOf 4 rfl) 4 rfl ?_
    refine r_aload_n X (x_dr DX6_waysOf 5 rfl) 0 rfl rfl ?_
    refine gf_6_24 X rfl (x_dr DX6_waysOf 6 rfl) ?_
    refine gf_6_124 X rfl (x_dr DX6_waysOf 7 rfl) ?_
    refine r_icmp_ge X 46 (x_dr DX6_waysOf 8 rfl) (by decide) (fun c1 => ?_) (fun c1 => ?_)
    · replace h := h.1 c1
      refine r_norm X [3] ([(3, .long a3)]) rfl ?_
      exact kk _ _ h
    · replace h := h.2 c1
      refine r_lload_n X (x_dr DX6_waysOf 9 rfl) 3 rfl rfl ?_
      refine r_iload_n X (x_dr DX6_waysOf 10 rfl) 1 rfl rfl ?_
      refine r_iload X (x_dr DX6_waysOf 11 rfl) 4 rfl ?_
      refine r_ishr X (x_dr DX6_waysOf 12 rfl) ?_
      refine r_iconst (v := 1) X (x_dr DX6_waysOf 13 rfl) (by decide) ?_
      refine r_iand X (x_dr DX6_waysOf 14 rfl) ?_
      refine r_iconst (v := 1) X (x_dr DX6_waysOf 15 rfl) (by decide) ?_
      obtain ⟨j4, ej4, h⟩ := x_jn h
      have Jj4 : ∀ (v3 : Int64), j4 v3 → KK ad E (qL Q) 38 ([(0, .ref (ad 0 0 0)), (1, .int a1), (2, .int a2), (5, .int a5)]) [.long v3, .long a3] σ := by
        intro v3 h
        rw [ej4] at h
        refine r_lmul X (x_dr DX6_waysOf 24 rfl) ?_
        refine r_nmJ (fun v5 ev5 => ?_)
        replace h := h v5 ev5
        refine r_lstore_n X ([(3, .long v5), (0, .ref (ad 0 0 0)), (1, .int a1), (2, .int a2), (5, .int a5)]) (x_dr DX6_waysOf 25 rfl) rfl (by decide) rfl ?_
        obtain ⟨v6, ev6⟩ : ∃ z : Int32, z = a5 + 1 := ⟨_, rfl⟩
        replace h := h v6 ev6
        refine r_iinc (v := v6) X ([(5, .int v6), (3, .long v5), (0, .ref (ad 0 0 0)), (1, .int a1), (2, .int a2)]) 4 (x_dr DX6_waysOf 26 rfl) rfl (by rw [ev6]; rfl) (by decide) rfl ?_
        refine r_goto X 5 (x_dr DX6_waysOf 27 rfl) (by decide) ?_
        refine r_norm X [2, 3, 4, 1, 0] ([(0, .ref (ad 0 0 0)), (1, .int a1), (2, .int a2), (3, .long v5), (5, .int v6)]) rfl ?_
        exact ih _ _ _ h kk
      refine r_icmp_ne X 33 (x_dr DX6_waysOf 16 rfl) (by decide) (fun c7 => ?_) (fun c7 => ?_)
      · replace h := h.1 c7
        refine r_bipush (v := 16) X (x_dr DX6_waysOf 20 rfl) (by decide) ?_
        refine r_iload_n X (x_dr DX6_waysOf 21 rfl) 2 rfl rfl ?_
        refine r_isub X (x_dr DX6_waysOf 22 rfl) ?_
        refine r_i2l X (x_dr DX6_waysOf 23 rfl) ?_
        refine r_norm X [0, 1, 2, 4] ([(0, .ref (ad 0 0 0)), (1, .int a1), (2, .int a2), (5, .int a5)]) rfl ?_
        exact Jj4 _ h
      · replace h := h.2 c7
        refine r_iload_n X (x_dr DX6_waysOf 17 rfl) 2 rfl rfl ?_
        refine r_i2l X (x_dr DX6_waysOf 18 rfl) ?_
        refine r_goto X 38 (x_dr DX6_waysOf 19 rfl) (by decide) ?_
        refine r_norm X [0, 1, 2, 4] ([(0, .ref (ad 0 0 0)), (1, .int a1), (2, .int a2), (5, .int a5)]) rfl ?_
        exact Jj4 _ h
set_option maxRecDepth 10000 in
theorem k6_waysOf {ad : xAd} {G : xG} {l : Launch} {a1 : Int32} {a2 : Int32} {σ : xSt} {Q : Int64 → xSt → Prop}  (h : d6_waysOf a1 a2 σ Q) : MC ad G l yX6_waysOf cX6_waysOf 6 (some .long) 0 0 [.ref (ad 0 0 0), .int a1, .int a2] σ (qL Q) := by
  unfold d6_waysOf at h
  refine x_MC [(0, .ref (ad 0 0 0)), (1, .int a1), (2, .int a2)] (by decide +kernel) rfl (Nat.le_of_ble_eq_true rfl) ?_
  intro E hG hl X
  replace X : FX ad E cX6_waysOf 6 RX6 (some .long) 0 0 := X
  refine r_lconst (v := 1) X (x_dr DX6_waysOf 0 rfl) (by decide) ?_
  refine r_lstore_n X ([(3, .long 1), (0, .ref (ad 0 0 0)), (1, .int a1), (2, .int a2)]) (x_dr DX6_waysOf 1 rfl) rfl (by decide) rfl ?_
  refine r_iconst (v := 0) X (x_dr DX6_waysOf 2 rfl) (by decide) ?_
  refine r_istore X ([(5, .int 0), (3, .long 1), (0, .ref (ad 0 0 0)), (1, .int a1), (2, .int a2)]) (x_dr DX6_waysOf 3 rfl) (by decide) rfl ?_
  refine r_norm X [2, 3, 4, 1, 0] ([(0, .ref (ad 0 0 0)), (1, .int a1), (2, .int a2), (3, .long 1), (5, .int 0)]) rfl ?_
  refine w6_waysOf_L5 X  _ _ _ _ h (fun v9 s8 h => ?_)
  refine r_lload_n X (x_dr DX6_waysOf 28 rfl) 0 rfl rfl ?_
  exact r_lret X rfl (x_dr DX6_waysOf 29 rfl) ⟨_, rfl, h⟩
set_option maxRecDepth 10000 in
theorem w6_waysCarried_L16 {ad : xAd} {E : xE} (X : FX ad E cX6_waysCarried 8 RX6 (some .long) 3 70)   {a1 : Int32} {a2 : Int32} {K : Int64 → xSt → Prop} {Q : Int64 → xSt → Prop} : ∀ (n : Nat) (a3 : Int64) (a5 : Int32) (σ : xSt), d6_waysCarried_L16 a1 a2 K Q n a3 a5 σ → (∀ (a3 : Int64) (s : xSt), K a3 s → KK ad E (qL Q) 102 ([(3, .long a3)]) [] s) → KK ad E (qL Q) 16 ([(0, .ref (ad 0 0 0)), (1, .int a1), (2, .int a2), (3, .long a3), (5, .int a5)]) [] σ := by
  intro n
  induction n with
  | zero => intro a3 a5 σ h kk; exact h.elim
  | succ n ih =>
    intro a3 a5 σ h kk
    rw [d6_waysCarried_L16] at h
    refine r_iload X (x_dr DX6_waysCarried 9 rfl) 4 rfl ?_
    refine r_iconst (v := 1) X (x_dr DX6_waysCarried 10 rfl) (by decide) ?_
    refine r_aload_n X (x_dr DX6_waysCarried 11 rfl) 0 rfl rfl ?_
    refine gf_6_24 X rfl (x_dr DX6_waysCarried 12 rfl) ?_
    refine gf_6_124 X rfl (x_dr DX6_waysCarried 13 rfl) ?_
    refine r_ishl X (x_dr DX6_waysCarried 14 rfl) ?_
    refine r_icmp_ge X 102 (x_dr DX6_waysCarried 15 rfl) (by decide) (fun c2 => ?_) (fun c2 => ?_)
    · replace h := h.1 c2
      refine r_norm X [3] ([(3, .long a3)]) rfl ?_
      exact kk _ _ h
    · replace h := h.2 c2
      refine r_aload_n X (x_dr DX6_waysCarried 16 rfl) 0 rfl rfl ?_
      refine r_iload X (x_dr DX6_waysCarried 17 rfl) 4 rfl ?_
      refine r_iload_n X (x_dr DX6_waysCarried 18 rfl) 1 rfl rfl ?_
      refine cl6_waysOf X (k6_waysOf h) rfl ml_6_370 ⟨Nat.le_of_ble_eq_true rfl, Nat.le_of_ble_eq_true rfl⟩ (Nat.le_of_ble_eq_true rfl) (x_dr DX6_waysCarried 19 rfl) (fun v4 s3 h => ?_)
      refine r_lstore X ([(6, .long v4), (0, .ref (ad 0 0 0)), (1, .int a1), (2, .int a2), (3, .long a3), (5, .int a5)]) (x_dr DX6_waysCarried 20 rfl) (by decide) rfl ?_
      refine r_lload X (x_dr DX6_waysCarried 21 rfl) 0 rfl ?_
      refine r_lconst (v := 0) X (x_dr DX6_waysCarried 22 rfl) (by decide) ?_
      refine r_lcmp X (x_dr DX6_waysCarried 23 rfl) ?_
      refine r_if_ne X 49 (x_dr DX6_waysCarried 24 rfl) (by decide) (fun c5 => ?_) (fun c5 => ?_)
      · replace h := h.1 c5
        refine r_aload_n X (x_dr DX6_waysCarried 26 rfl) 1 rfl rfl ?_
        refine gf_6_28 X rfl (x_dr DX6_waysCarried 27 rfl) ?_
        refine r_aload_n X (x_dr DX6_waysCarried 28 rfl) 1 rfl rfl ?_
        refine gf_6_24 X rfl (x_dr DX6_waysCarried 29 rfl) ?_
        refine r_iload X (x_dr DX6_waysCarried 30 rfl) 5 rfl ?_
        refine cl1_takeEvents X (k1_takeEvents rfl rfl h) rfl ml_6_237 ⟨Nat.le_of_ble_eq_true rfl, Nat.le_of_ble_eq_true rfl⟩ (Nat.le_of_ble_eq_true rfl) (x_dr DX6_waysCarried 31 rfl) (fun s6 h => ?_)
        refine r_aload_n X (x_dr DX6_waysCarried 32 rfl) 1 rfl rfl ?_
        refine gf_6_38 X rfl (x_dr DX6_waysCarried 33 rfl) ?_
        refine r_aload_n X (x_dr DX6_waysCarried 34 rfl) 1 rfl rfl ?_
        refine gf_6_28 X rfl (x_dr DX6_waysCarried 35 rfl) ?_
        refine r_iload_n X (x_dr DX6_waysCarried 36 rfl) 3 rfl rfl ?_
        refine r_iconst (v := 1) X (x_dr DX6_waysCarried 37 rfl) (by decide) ?_
        refine r_iadd X (x_dr DX6_waysCarried 38 rfl) ?_
        refine cl2_sit X (k2_sit rfl rfl h) rfl ml_6_241 ⟨Nat.le_of_ble_eq_true rfl, Nat.le_of_ble_eq_true rfl⟩ (Nat.le_of_ble_eq_true rfl) (x_dr DX6_waysCarried 39 rfl) (fun s7 h => ?_)
        refine r_lload_n X (x_dr DX6_waysCarried 40 rfl) 4 rfl rfl ?_
        refine r_aload_n X (x_dr DX6_waysCarried 41 rfl) 1 rfl rfl ?_
        refine gf_6_38 X rfl (x_dr DX6_waysCarried 42 rfl) ?_
        refine r_iload_n X (x_dr DX6_waysCarried 43 rfl) 3 rfl rfl ?_
        refine cl2_carries X (k2_carries rfl h) rfl ml_6_175 ⟨Nat.le_of_ble_eq_true rfl, Nat.le_of_ble_eq_true rfl⟩ (Nat.le_of_ble_eq_true rfl) (x_dr DX6_waysCarried 44 rfl) (fun v9 s8 zv9 h => ?_)
        obtain ⟨j12, ej12, h⟩ := x_jn h
        have Jj12 : ∀ (v11 : Int64), j12 v11 → KK ad E (qL Q) 94 ([(0, .ref (ad 0 0 0)), (1, .int a1), (2, .int a2), (5, .int a5)]) [.long v11, .long a3] s8 := by
          intro v11 h
          rw [ej12] at h
          refine r_ladd X (x_dr DX6_waysCarried 49 rfl) ?_
          refine r_nmJ (fun v13 ev13 => ?_)
          replace h := h v13 ev13
          refine r_lstore_n X ([(3, .long v13), (0, .ref (ad 0 0 0)), (1, .int a1), (2, .int a2), (5, .int a5)]) (x_dr DX6_waysCarried 50 rfl) rfl (by decide) rfl ?_
          obtain ⟨v14, ev14⟩ : ∃ z : Int32, z = a5 + 1 := ⟨_, rfl⟩
          replace h := h v14 ev14
          refine r_iinc (v := v14) X ([(5, .int v14), (3, .long v13), (0, .ref (ad 0 0 0)), (1, .int a1), (2, .int a2)]) 4 (x_dr DX6_waysCarried 51 rfl) rfl (by rw [ev14]; rfl) (by decide) rfl ?_
          refine r_goto X 16 (x_dr DX6_waysCarried 52 rfl) (by decide) ?_
          refine r_norm X [2, 3, 4, 1, 0] ([(0, .ref (ad 0 0 0)), (1, .int a1), (2, .int a2), (3, .long v13), (5, .int v14)]) rfl ?_
          exact ih _ _ _ h kk
        refine r_if_eq X 93 (x_dr DX6_waysCarried 45 rfl) (by decide) (fun c15 => ?_) (fun c15 => ?_)
        · replace h := h.1 c15
          refine r_lconst (v := 0) X (x_dr DX6_waysCarried 48 rfl) (by decide) ?_
          refine r_norm X [1, 2, 3, 5] ([(0, .ref (ad 0 0 0)), (1, .int a1), (2, .int a2), (5, .int a5)]) rfl ?_
          exact Jj12 _ h
        · replace h := h.2 c15
          refine r_lload X (x_dr DX6_waysCarried 46 rfl) 0 rfl ?_
          refine r_goto X 94 (x_dr DX6_waysCarried 47 rfl) (by decide) ?_
          refine r_norm X [1, 2, 3, 5] ([(0, .ref (ad 0 0 0)), (1, .int a1), (2, .int a2), (5, .int a5)]) rfl ?_
          exact Jj12 _ h
      · replace h := h.2 c5
        refine r_goto X 96 (x_dr DX6_waysCarried 25 rfl) (by decide) ?_
        obtain ⟨v16, ev16⟩ : ∃ z : Int32, z = a5 + 1 := ⟨_, rfl⟩
        replace h := h v16 ev16
        refine r_iinc (v := v16) X ([(5, .int v16), (6, .long v4), (0, .ref (ad 0 0 0)), (1, .int a1), (2, .int a2), (3, .long a3)]) 5 (x_dr DX6_waysCarried 51 rfl) rfl (by rw [ev16]; rfl) (by decide) rfl ?_
        refine r_goto X 16 (x_dr DX6_waysCarried 52 rfl) (by decide) ?_
        refine r_norm X [2, 3, 4, 5, 0] ([(0, .ref (ad 0 0 0)), (1, .int a1), (2, .int a2), (3, .long a3), (5, .int v16)]) rfl ?_
        exact ih _ _ _ h kk
set_option maxRecDepth 10000 in
theorem k6_waysCarried {ad : xAd} {G : xG} {l : Launch} {a1 : Int32} {a2 : Int32} {σ : xSt} {Q : Int64 → xSt → Prop}  (h : d6_waysCarried a1 a2 σ Q) : MC ad G l yX6_waysCarried cX6_waysCarried 8 (some .long) 3 70 [.ref (ad 0 0 0), .int a1, .int a2] σ (qL Q) := by
  unfold d6_waysCarried at h
  refine x_MC [(0, .ref (ad 0 0 0)), (1, .int a1), (2, .int a2)] (by decide +kernel) rfl (Nat.le_of_ble_eq_true rfl) ?_
  intro E hG hl X
  replace X : FX ad E cX6_waysCarried 8 RX6 (some .long) 3 70 := X
  refine r_lconst (v := 0) X (x_dr DX6_waysCarried 0 rfl) (by decide) ?_
  refine r_lstore_n X ([(3, .long 0), (0, .ref (ad 0 0 0)), (1, .int a1), (2, .int a2)]) (x_dr DX6_waysCarried 1 rfl) rfl (by decide) rfl ?_
  refine r_aload_n X (x_dr DX6_waysCarried 2 rfl) 1 rfl rfl ?_
  refine gf_6_28 X rfl (x_dr DX6_waysCarried 3 rfl) ?_
  refine r_aload_n X (x_dr DX6_waysCarried 4 rfl) 1 rfl rfl ?_
  refine gf_6_24 X rfl (x_dr DX6_waysCarried 5 rfl) ?_
  refine cl1_takeAll X (k1_takeAll rfl rfl h) rfl ml_6_233 ⟨Nat.le_of_ble_eq_true rfl, Nat.le_of_ble_eq_true rfl⟩ (Nat.le_of_ble_eq_true rfl) (x_dr DX6_waysCarried 6 rfl) (fun s1 h => ?_)
  refine r_iconst (v := 0) X (x_dr DX6_waysCarried 7 rfl) (by decide) ?_
  refine r_istore X ([(5, .int 0), (3, .long 0), (0, .ref (ad 0 0 0)), (1, .int a1), (2, .int a2)]) (x_dr DX6_waysCarried 8 rfl) (by decide) rfl ?_
  refine r_norm X [2, 3, 4, 1, 0] ([(0, .ref (ad 0 0 0)), (1, .int a1), (2, .int a2), (3, .long 0), (5, .int 0)]) rfl ?_
  refine w6_waysCarried_L16 X  _ _ _ _ h (fun v18 s17 h => ?_)
  refine r_lload_n X (x_dr DX6_waysCarried 53 rfl) 0 rfl rfl ?_
  exact r_lret X rfl (x_dr DX6_waysCarried 54 rfl) ⟨_, rfl, h⟩
set_option maxRecDepth 10000 in
theorem w6_chance_L54 {ad : xAd} {E : xE} (X : FX ad E cX6_chance 9 RX6 (some .long) 4 97)   {a3 : Int32} {K : Int64 → Int64 → xSt → Prop} {Q : Int64 → xSt → Prop} : ∀ (n : Nat) (a4 : Int64) (a6 : Int64) (a8 : Int32) (σ : xSt), d6_chance_L54 a3 K Q n a4 a6 a8 σ → (∀ (a4 : Int64) (a6 : Int64) (s : xSt), K a4 a6 s → KK ad E (qL Q) 95 ([(3, .int a3), (4, .long a4), (6, .long a6)]) [] s) → KK ad E (qL Q) 54 ([(3, .int a3), (4, .long a4), (6, .long a6), (8, .int a8)]) [] σ := by
  intro n
  induction n with
  | zero => intro a4 a6 a8 σ h kk; exact h.elim
  | succ n ih =>
    intro a4 a6 a8 σ h kk
    rw [d6_chance_L54] at h
    refine r_iload X (x_dr DX6_chance 30 rfl) 3 rfl ?_
    refine r_bipush (v := 32) X (x_dr DX6_chance 31 rfl) (by decide) ?_
    refine r_icmp_ge X 95 (x_dr DX6_chance 32 rfl) (by decide) (fun c11 => ?_) (fun c11 => ?_)
    · replace h := h.1 c11
      refine r_norm X [0, 1, 2] ([(3, .int a3), (4, .long a4), (6, .long a6)]) rfl ?_
      exact kk _ _ _ h
    · replace h := h.2 c11
      refine r_lload X (x_dr DX6_chance 33 rfl) 2 rfl ?_
      refine r_lconst (v := 1) X (x_dr DX6_chance 34 rfl) (by decide) ?_
      refine r_lcmp X (x_dr DX6_chance 35 rfl) ?_
      refine r_if_le X 95 (x_dr DX6_chance 36 rfl) (by decide) (fun c12 => ?_) (fun c12 => ?_)
      · replace h := h.1 c12
        refine r_norm X [0, 1, 2] ([(3, .int a3), (4, .long a4), (6, .long a6)]) rfl ?_
        exact kk _ _ _ h
      · replace h := h.2 c12
        refine r_lload X (x_dr DX6_chance 37 rfl) 1 rfl ?_
        refine r_lconst (v := 1) X (x_dr DX6_chance 38 rfl) (by decide) ?_
        refine r_land X (x_dr DX6_chance 39 rfl) ?_
        refine r_lconst (v := 0) X (x_dr DX6_chance 40 rfl) (by decide) ?_
        refine r_lcmp X (x_dr DX6_chance 41 rfl) ?_
        refine r_if_ne X 95 (x_dr DX6_chance 42 rfl) (by decide) (fun c13 => ?_) (fun c13 => ?_)
        · replace h := h.1 c13
          refine r_norm X [0, 1, 2] ([(3, .int a3), (4, .long a4), (6, .long a6)]) rfl ?_
          exact kk _ _ _ h
        · replace h := h.2 c13
          refine r_lload X (x_dr DX6_chance 43 rfl) 1 rfl ?_
          refine r_iconst (v := 1) X (x_dr DX6_chance 44 rfl) (by decide) ?_
          refine r_lshr X (x_dr DX6_chance 45 rfl) ?_
          refine r_nmJ (fun v14 ev14 => ?_)
          replace h := h v14 ev14
          refine r_lstore X ([(4, .long v14), (3, .int a3), (6, .long a6), (8, .int a8)]) (x_dr DX6_chance 46 rfl) (by decide) rfl ?_
          refine r_lload X (x_dr DX6_chance 47 rfl) 2 rfl ?_
          refine r_iconst (v := 1) X (x_dr DX6_chance 48 rfl) (by decide) ?_
          refine r_lshr X (x_dr DX6_chance 49 rfl) ?_
          refine r_nmJ (fun v15 ev15 => ?_)
          replace h := h v15 ev15
          refine r_lstore X ([(6, .long v15), (4, .long v14), (3, .int a3), (8, .int a8)]) (x_dr DX6_chance 50 rfl) (by decide) rfl ?_
          obtain ⟨v16, ev16⟩ : ∃ z : Int32, z = a8 + 1 := ⟨_, rfl⟩
          replace h := h v16 ev16
          refine r_iinc (v := v16) X ([(8, .int v16), (6, .long v15), (4, .long v14), (3, .int a3)]) 3 (x_dr DX6_chance 51 rfl) rfl (by rw [ev16]; rfl) (by decide) rfl ?_
          refine r_goto X 54 (x_dr DX6_chance 52 rfl) (by decide) ?_
          refine r_norm X [3, 2, 1, 0] ([(3, .int a3), (4, .long v14), (6, .long v15), (8, .int v16)]) rfl ?_
          exact ih _ _ _ _ h kk
set_option maxRecDepth 10000 in
theorem k6_chance {ad : xAd} {G : xG} {l : Launch} {a1 : Int32} {a2 : Int32} {a3 : Int32} {σ : xSt} {Q : Int64 → xSt → Prop}  (h : d6_chance a1 a2 a3 σ Q) : MC ad G l yX6_chance cX6_chance 9 (some .long) 4 97 [.ref (ad 0 0 0), .int a1, .int a2, .int a3] σ (qL Q) := by
  unfold d6_chance at h
  refine x_MC [(0, .ref (ad 0 0 0)), (1, .int a1), (2, .int a2), (3, .int a3)] (by decide +kernel) rfl (Nat.le_of_ble_eq_true rfl) ?_
  intro E hG hl X
  replace X : FX ad E cX6_chance 9 RX6 (some .long) 4 97 := X
  refine r_iload_n X (x_dr DX6_chance 0 rfl) 1 rfl rfl ?_
  refine r_if_lt X 26 (x_dr DX6_chance 1 rfl) (by decide) (fun c1 => ?_) (fun c1 => ?_)
  · replace h := h.1 c1
    refine r_ldc2 X mkl_6_257 (x_dr DX6_chance 13 rfl) ?_
    exact r_lret X rfl (x_dr DX6_chance 14 rfl) ⟨_, rfl, h⟩
  · replace h := h.2 c1
    refine r_iload_n X (x_dr DX6_chance 2 rfl) 1 rfl rfl ?_
    refine r_bipush (v := 16) X (x_dr DX6_chance 3 rfl) (by decide) ?_
    refine r_icmp_gt X 26 (x_dr DX6_chance 4 rfl) (by decide) (fun c2 => ?_) (fun c2 => ?_)
    · replace h := h.1 c2
      refine r_ldc2 X mkl_6_257 (x_dr DX6_chance 13 rfl) ?_
      exact r_lret X rfl (x_dr DX6_chance 14 rfl) ⟨_, rfl, h⟩
    · replace h := h.2 c2
      refine r_iload_n X (x_dr DX6_chance 5 rfl) 2 rfl rfl ?_
      refine cl6_isHour X (k6_isHour h) ml_6_121 ⟨Nat.le_of_ble_eq_true rfl, Nat.le_of_ble_eq_true rfl⟩ (Nat.le_of_ble_eq_true rfl) (x_dr DX6_chance 6 rfl) (fun v4 s3 zv4 h => ?_)
      refine r_if_eq X 26 (x_dr DX6_chance 7 rfl) (by decide) (fun c5 => ?_) (fun c5 => ?_)
      · replace h := h.1 c5
        refine r_ldc2 X mkl_6_257 (x_dr DX6_chance 13 rfl) ?_
        exact r_lret X rfl (x_dr DX6_chance 14 rfl) ⟨_, rfl, h⟩
      · replace h := h.2 c5
        refine r_iload_n X (x_dr DX6_chance 8 rfl) 3 rfl rfl ?_
        refine r_if_lt X 26 (x_dr DX6_chance 9 rfl) (by decide) (fun c6 => ?_) (fun c6 => ?_)
        · replace h := h.1 c6
          refine r_ldc2 X mkl_6_257 (x_dr DX6_chance 13 rfl) ?_
          exact r_lret X rfl (x_dr DX6_chance 14 rfl) ⟨_, rfl, h⟩
        · replace h := h.2 c6
          refine r_iload_n X (x_dr DX6_chance 10 rfl) 3 rfl rfl ?_
          refine r_iconst (v := 1) X (x_dr DX6_chance 11 rfl) (by decide) ?_
          refine r_icmp_le X 30 (x_dr DX6_chance 12 rfl) (by decide) (fun c7 => ?_) (fun c7 => ?_)
          · replace h := h.1 c7
            refine r_aload_n X (x_dr DX6_chance 15 rfl) 0 rfl rfl ?_
            refine r_iload_n X (x_dr DX6_chance 16 rfl) 1 rfl rfl ?_
            refine r_iload_n X (x_dr DX6_chance 17 rfl) 2 rfl rfl ?_
            refine cl6_waysCarried X (k6_waysCarried h) rfl ml_6_259 ⟨Nat.le_of_ble_eq_true rfl, Nat.le_of_ble_eq_true rfl⟩ (Nat.le_of_ble_eq_true rfl) (x_dr DX6_chance 18 rfl) (fun v9 s8 h => ?_)
            refine r_lstore X ([(4, .long v9), (0, .ref (ad 0 0 0)), (1, .int a1), (2, .int a2), (3, .int a3)]) (x_dr DX6_chance 19 rfl) (by decide) rfl ?_
            refine r_lconst (v := 1) X (x_dr DX6_chance 20 rfl) (by decide) ?_
            refine r_iconst (v := 4) X (x_dr DX6_chance 21 rfl) (by decide) ?_
            refine r_aload_n X (x_dr DX6_chance 22 rfl) 1 rfl rfl ?_
            refine gf_6_24 X rfl (x_dr DX6_chance 23 rfl) ?_
            refine gf_6_124 X rfl (x_dr DX6_chance 24 rfl) ?_
            refine r_imul X (x_dr DX6_chance 25 rfl) ?_
            refine r_lshl X (x_dr DX6_chance 26 rfl) ?_
            refine r_nmJ (fun v10 ev10 => ?_)
            replace h := h v10 ev10
            refine r_lstore X ([(6, .long v10), (4, .long v9), (0, .ref (ad 0 0 0)), (1, .int a1), (2, .int a2), (3, .int a3)]) (x_dr DX6_chance 27 rfl) (by decide) rfl ?_
            refine r_iconst (v := 0) X (x_dr DX6_chance 28 rfl) (by decide) ?_
            refine r_istore X ([(8, .int 0), (6, .long v10), (4, .long v9), (0, .ref (ad 0 0 0)), (1, .int a1), (2, .int a2), (3, .int a3)]) (x_dr DX6_chance 29 rfl) (by decide) rfl ?_
            refine r_norm X [6, 2, 1, 0] ([(3, .int a3), (4, .long v9), (6, .long v10), (8, .int 0)]) rfl ?_
            refine w6_chance_L54 X  _ _ _ _ _ h (fun v18 v19 s17 h => ?_)
            refine r_iload_n X (x_dr DX6_chance 53 rfl) 0 rfl rfl ?_
            refine r_if_ne X 104 (x_dr DX6_chance 54 rfl) (by decide) (fun c20 => ?_) (fun c20 => ?_)
            · replace h := h.1 c20
              refine r_lload X (x_dr DX6_chance 57 rfl) 2 rfl ?_
              exact r_lret X rfl (x_dr DX6_chance 58 rfl) ⟨_, rfl, h⟩
            · replace h := h.2 c20
              refine r_lload X (x_dr DX6_chance 55 rfl) 1 rfl ?_
              refine r_goto X 106 (x_dr DX6_chance 56 rfl) (by decide) ?_
              exact r_lret X rfl (x_dr DX6_chance 58 rfl) ⟨_, rfl, h⟩
          · replace h := h.2 c7
            refine r_ldc2 X mkl_6_257 (x_dr DX6_chance 13 rfl) ?_
            exact r_lret X rfl (x_dr DX6_chance 14 rfl) ⟨_, rfl, h⟩
set_option maxRecDepth 10000 in
theorem k6_nextSeed {ad : xAd} {G : xG} {l : Launch} {a0 : Int32} {σ : xSt} {Q : Int32 → xSt → Prop}  (h : d6_nextSeed a0 σ Q) : MC ad G l yX6_nextSeed cX6_nextSeed 1 (some .int) 0 0 [.int a0] σ (qI Q) := by
  unfold d6_nextSeed at h
  refine x_MC [(0, .int a0)] (by decide +kernel) rfl (Nat.le_of_ble_eq_true rfl) ?_
  intro E hG hl X
  replace X : FX ad E cX6_nextSeed 1 RX6 (some .int) 0 0 := X
  refine r_ldcw X mk_6_379 (x_dr DX6_nextSeed 0 rfl) ?_
  refine r_iload_n X (x_dr DX6_nextSeed 1 rfl) 0 rfl rfl ?_
  refine r_imul X (x_dr DX6_nextSeed 2 rfl) ?_
  refine r_sipush (v := 12345) X (x_dr DX6_nextSeed 3 rfl) (by decide) ?_
  refine r_iadd X (x_dr DX6_nextSeed 4 rfl) ?_
  exact r_iret X rfl (x_dr DX6_nextSeed 5 rfl) ⟨_, rfl, h⟩
set_option maxRecDepth 10000 in
theorem k6_lot {ad : xAd} {G : xG} {l : Launch} {a0 : Int32} {a1 : Int32} {σ : xSt} {Q : Int32 → xSt → Prop}  (h : d6_lot a0 a1 σ Q) : MC ad G l yX6_lot cX6_lot 2 (some .int) 0 0 [.int a0, .int a1] σ (qI Q) := by
  unfold d6_lot at h
  refine x_MC [(0, .int a0), (1, .int a1)] (by decide +kernel) rfl (Nat.le_of_ble_eq_true rfl) ?_
  intro E hG hl X
  replace X : FX ad E cX6_lot 2 RX6 (some .int) 0 0 := X
  refine r_iload_n X (x_dr DX6_lot 0 rfl) 1 rfl rfl ?_
  refine r_if_le X 13 (x_dr DX6_lot 1 rfl) (by decide) (fun c1 => ?_) (fun c1 => ?_)
  · replace h := h.1 c1
    refine r_iconst (v := 0) X (x_dr DX6_lot 8 rfl) (by decide) ?_
    exact r_iret X rfl (x_dr DX6_lot 9 rfl) ⟨_, rfl, h⟩
  · replace h := h.2 c1
    refine r_iload_n X (x_dr DX6_lot 2 rfl) 0 rfl rfl ?_
    refine r_bipush (v := 16) X (x_dr DX6_lot 3 rfl) (by decide) ?_
    refine r_iushr X (x_dr DX6_lot 4 rfl) ?_
    refine r_iload_n X (x_dr DX6_lot 5 rfl) 1 rfl rfl ?_
    obtain ⟨b2, h⟩ := h
    refine r_irem X (x_dr DX6_lot 6 rfl) b2 ?_
    refine r_goto X 14 (x_dr DX6_lot 7 rfl) (by decide) ?_
    exact r_iret X rfl (x_dr DX6_lot 9 rfl) ⟨_, rfl, h⟩
set_option maxRecDepth 10000 in
theorem w6_sitAges_L24 {ad : xAd} {E : xE} (X : FX ad E cX6_sitAges 7 RX6 none 3 70)   {a2 : Int32} {K : xSt → Prop} {Q : xSt → Prop} : ∀ (n : Nat) (a3 : Int32) (a4 : Int32) (σ : xSt), d6_sitAges_L24 a2 K Q n a3 a4 σ → (∀ (s : xSt), K  s → KK ad E (qV Q) 90 ([(0, .ref (ad 0 0 0))]) [] s) → KK ad E (qV Q) 24 ([(0, .ref (ad 0 0 0)), (2, .int a2), (3, .int a3), (4, .int a4)]) [] σ := by
  intro n
  induction n with
  | zero => intro a3 a4 σ h kk; exact h.elim
  | succ n ih =>
    intro a3 a4 σ h kk
    rw [d6_sitAges_L24] at h
    refine r_iload X (x_dr DX6_sitAges 13 rfl) 3 rfl ?_
    refine r_iload_n X (x_dr DX6_sitAges 14 rfl) 1 rfl rfl ?_
    refine r_icmp_ge X 90 (x_dr DX6_sitAges 15 rfl) (by decide) (fun c3 => ?_) (fun c3 => ?_)
    · replace h := h.1 c3
      refine r_norm X [0] ([(0, .ref (ad 0 0 0))]) rfl ?_
      exact kk  _ h
    · replace h := h.2 c3
      refine r_iload X (x_dr DX6_sitAges 16 rfl) 3 rfl ?_
      refine r_bipush (v := 8) X (x_dr DX6_sitAges 17 rfl) (by decide) ?_
      refine r_icmp_ge X 90 (x_dr DX6_sitAges 18 rfl) (by decide) (fun c4 => ?_) (fun c4 => ?_)
      · replace h := h.1 c4
        refine r_norm X [0] ([(0, .ref (ad 0 0 0))]) rfl ?_
        exact kk  _ h
      · replace h := h.2 c4
        refine r_iload_n X (x_dr DX6_sitAges 19 rfl) 2 rfl rfl ?_
        refine cl6_nextSeed X (k6_nextSeed h) ml_6_373 ⟨Nat.le_of_ble_eq_true rfl, Nat.le_of_ble_eq_true rfl⟩ (Nat.le_of_ble_eq_true rfl) (x_dr DX6_sitAges 20 rfl) (fun v6 s5 h => ?_)
        refine r_istore_n X ([(3, .int v6), (0, .ref (ad 0 0 0)), (2, .int a2), (4, .int a4)]) (x_dr DX6_sitAges 21 rfl) rfl (by decide) rfl ?_
        refine r_iload_n X (x_dr DX6_sitAges 22 rfl) 0 rfl rfl ?_
        refine r_iconst (v := 4) X (x_dr DX6_sitAges 23 rfl) (by decide) ?_
        refine cl6_lot X (k6_lot h) ml_6_376 ⟨Nat.le_of_ble_eq_true rfl, Nat.le_of_ble_eq_true rfl⟩ (Nat.le_of_ble_eq_true rfl) (x_dr DX6_sitAges 24 rfl) (fun v8 s7 h => ?_)
        refine r_istore X ([(5, .int v8), (3, .int v6), (0, .ref (ad 0 0 0)), (2, .int a2), (4, .int a4)]) (x_dr DX6_sitAges 25 rfl) (by decide) rfl ?_
        refine r_iload_n X (x_dr DX6_sitAges 26 rfl) 1 rfl rfl ?_
        refine cl6_nextSeed X (k6_nextSeed h) ml_6_373 ⟨Nat.le_of_ble_eq_true rfl, Nat.le_of_ble_eq_true rfl⟩ (Nat.le_of_ble_eq_true rfl) (x_dr DX6_sitAges 27 rfl) (fun v10 s9 h => ?_)
        refine r_istore_n X ([(3, .int v10), (5, .int v8), (0, .ref (ad 0 0 0)), (2, .int a2), (4, .int a4)]) (x_dr DX6_sitAges 28 rfl) rfl (by decide) rfl ?_
        refine r_iload_n X (x_dr DX6_sitAges 29 rfl) 0 rfl rfl ?_
        refine r_bipush (v := 20) X (x_dr DX6_sitAges 30 rfl) (by decide) ?_
        refine cl6_lot X (k6_lot h) ml_6_376 ⟨Nat.le_of_ble_eq_true rfl, Nat.le_of_ble_eq_true rfl⟩ (Nat.le_of_ble_eq_true rfl) (x_dr DX6_sitAges 31 rfl) (fun v12 s11 h => ?_)
        refine r_istore X ([(6, .int v12), (3, .int v10), (5, .int v8), (0, .ref (ad 0 0 0)), (2, .int a2), (4, .int a4)]) (x_dr DX6_sitAges 32 rfl) (by decide) rfl ?_
        refine r_iload_n X (x_dr DX6_sitAges 33 rfl) 1 rfl rfl ?_
        refine cl6_nextSeed X (k6_nextSeed h) ml_6_373 ⟨Nat.le_of_ble_eq_true rfl, Nat.le_of_ble_eq_true rfl⟩ (Nat.le_of_ble_eq_true rfl) (x_dr DX6_sitAges 34 rfl) (fun v14 s13 h => ?_)
        refine r_istore_n X ([(3, .int v14), (6, .int v12), (5, .int v8), (0, .ref (ad 0 0 0)), (2, .int a2), (4, .int a4)]) (x_dr DX6_sitAges 35 rfl) rfl (by decide) rfl ?_
        refine r_aload_n X (x_dr DX6_sitAges 36 rfl) 3 rfl rfl ?_
        refine gf_6_28 X rfl (x_dr DX6_sitAges 37 rfl) ?_
        refine r_iload X (x_dr DX6_sitAges 38 rfl) 2 rfl ?_
        refine r_iload X (x_dr DX6_sitAges 39 rfl) 1 rfl ?_
        refine r_iload_n X (x_dr DX6_sitAges 40 rfl) 0 rfl rfl ?_
        refine r_bipush (v := 12) X (x_dr DX6_sitAges 41 rfl) (by decide) ?_
        refine cl6_lot X (k6_lot h) ml_6_376 ⟨Nat.le_of_ble_eq_true rfl, Nat.le_of_ble_eq_true rfl⟩ (Nat.le_of_ble_eq_true rfl) (x_dr DX6_sitAges 42 rfl) (fun v16 s15 h => ?_)
        refine cl1_addEvent X (k1_addEvent rfl h) rfl ml_6_128 ⟨Nat.le_of_ble_eq_true rfl, Nat.le_of_ble_eq_true rfl⟩ (Nat.le_of_ble_eq_true rfl) (x_dr DX6_sitAges 43 rfl) (fun s17 h => ?_)
        obtain ⟨v18, ev18⟩ : ∃ z : Int32, z = a4 + 1 := ⟨_, rfl⟩
        replace h := h v18 ev18
        refine r_iinc (v := v18) X ([(4, .int v18), (3, .int v14), (6, .int v12), (5, .int v8), (0, .ref (ad 0 0 0)), (2, .int a2)]) 5 (x_dr DX6_sitAges 44 rfl) rfl (by rw [ev18]; rfl) (by decide) rfl ?_
        refine r_goto X 24 (x_dr DX6_sitAges 45 rfl) (by decide) ?_
        refine r_norm X [4, 5, 1, 0] ([(0, .ref (ad 0 0 0)), (2, .int a2), (3, .int v14), (4, .int v18)]) rfl ?_
        exact ih _ _ _ h kk
set_option maxRecDepth 10000 in
theorem k6_sitAges {ad : xAd} {G : xG} {l : Launch} {a1 : Int32} {a2 : Int32} {σ : xSt} {Q : xSt → Prop}  (h : d6_sitAges a1 a2 σ Q) : MC ad G l yX6_sitAges cX6_sitAges 7 none 3 70 [.ref (ad 0 0 0), .int a1, .int a2] σ (qV Q) := by
  unfold d6_sitAges at h
  refine x_MC [(0, .ref (ad 0 0 0)), (1, .int a1), (2, .int a2)] (by decide +kernel) rfl (Nat.le_of_ble_eq_true rfl) ?_
  intro E hG hl X
  replace X : FX ad E cX6_sitAges 7 RX6 none 3 70 := X
  refine r_iload_n X (x_dr DX6_sitAges 0 rfl) 1 rfl rfl ?_
  refine r_istore_n X ([(3, .int a1), (0, .ref (ad 0 0 0)), (1, .int a1), (2, .int a2)]) (x_dr DX6_sitAges 1 rfl) rfl (by decide) rfl ?_
  refine r_aload_n X (x_dr DX6_sitAges 2 rfl) 1 rfl rfl ?_
  refine gf_6_28 X rfl (x_dr DX6_sitAges 3 rfl) ?_
  refine r_aload_n X (x_dr DX6_sitAges 4 rfl) 1 rfl rfl ?_
  refine gf_6_24 X rfl (x_dr DX6_sitAges 5 rfl) ?_
  refine cl1_takeAll X (k1_takeAll rfl rfl h) rfl ml_6_233 ⟨Nat.le_of_ble_eq_true rfl, Nat.le_of_ble_eq_true rfl⟩ (Nat.le_of_ble_eq_true rfl) (x_dr DX6_sitAges 6 rfl) (fun s1 h => ?_)
  refine r_aload_n X (x_dr DX6_sitAges 7 rfl) 1 rfl rfl ?_
  refine gf_6_28 X rfl (x_dr DX6_sitAges 8 rfl) ?_
  refine r_iconst (v := 0) X (x_dr DX6_sitAges 9 rfl) (by decide) ?_
  refine cl1_dropEvents X (k1_dropEvents rfl h) rfl ml_6_132 ⟨Nat.le_of_ble_eq_true rfl, Nat.le_of_ble_eq_true rfl⟩ (Nat.le_of_ble_eq_true rfl) (x_dr DX6_sitAges 10 rfl) (fun s2 h => ?_)
  refine r_iconst (v := 0) X (x_dr DX6_sitAges 11 rfl) (by decide) ?_
  refine r_istore X ([(4, .int 0), (3, .int a1), (0, .ref (ad 0 0 0)), (1, .int a1), (2, .int a2)]) (x_dr DX6_sitAges 12 rfl) (by decide) rfl ?_
  refine r_norm X [2, 4, 1, 0] ([(0, .ref (ad 0 0 0)), (2, .int a2), (3, .int a1), (4, .int 0)]) rfl ?_
  refine w6_sitAges_L24 X  _ _ _ _ h (fun s19 h => ?_)
  refine r_aload_n X (x_dr DX6_sitAges 46 rfl) 0 rfl rfl ?_
  refine gf_6_38 X rfl (x_dr DX6_sitAges 47 rfl) ?_
  refine r_aload_n X (x_dr DX6_sitAges 48 rfl) 0 rfl rfl ?_
  refine gf_6_28 X rfl (x_dr DX6_sitAges 49 rfl) ?_
  refine r_bipush (v := 20) X (x_dr DX6_sitAges 50 rfl) (by decide) ?_
  refine cl2_sit X (k2_sit rfl rfl h) rfl ml_6_241 ⟨Nat.le_of_ble_eq_true rfl, Nat.le_of_ble_eq_true rfl⟩ (Nat.le_of_ble_eq_true rfl) (x_dr DX6_sitAges 51 rfl) (fun s20 h => ?_)
  exact r_vret X rfl (x_dr DX6_sitAges 52 rfl) ⟨rfl, h⟩
set_option maxRecDepth 10000 in
theorem k6_ages {ad : xAd} {G : xG} {l : Launch} {a1 : Int32} {a2 : Int32} {a3 : Int32} {σ : xSt} {Q : Int32 → xSt → Prop}  (h : d6_ages a1 a2 a3 σ Q) : MC ad G l yX6_ages cX6_ages 4 (some .int) 4 96 [.ref (ad 0 0 0), .int a1, .int a2, .int a3] σ (qI Q) := by
  unfold d6_ages at h
  refine x_MC [(0, .ref (ad 0 0 0)), (1, .int a1), (2, .int a2), (3, .int a3)] (by decide +kernel) rfl (Nat.le_of_ble_eq_true rfl) ?_
  intro E hG hl X
  replace X : FX ad E cX6_ages 4 RX6 (some .int) 4 96 := X
  refine r_iload_n X (x_dr DX6_ages 0 rfl) 2 rfl rfl ?_
  refine r_if_lt X 19 (x_dr DX6_ages 1 rfl) (by decide) (fun c1 => ?_) (fun c1 => ?_)
  · replace h := h.1 c1
    refine r_bipush (v := (-2)) X (x_dr DX6_ages 10 rfl) (by decide) ?_
    exact r_iret X rfl (x_dr DX6_ages 11 rfl) ⟨_, rfl, h⟩
  · replace h := h.2 c1
    refine r_iload_n X (x_dr DX6_ages 2 rfl) 2 rfl rfl ?_
    refine r_bipush (v := 8) X (x_dr DX6_ages 3 rfl) (by decide) ?_
    refine r_icmp_gt X 19 (x_dr DX6_ages 4 rfl) (by decide) (fun c2 => ?_) (fun c2 => ?_)
    · replace h := h.1 c2
      refine r_bipush (v := (-2)) X (x_dr DX6_ages 10 rfl) (by decide) ?_
      exact r_iret X rfl (x_dr DX6_ages 11 rfl) ⟨_, rfl, h⟩
    · replace h := h.2 c2
      refine r_iload_n X (x_dr DX6_ages 5 rfl) 3 rfl rfl ?_
      refine r_if_lt X 19 (x_dr DX6_ages 6 rfl) (by decide) (fun c3 => ?_) (fun c3 => ?_)
      · replace h := h.1 c3
        refine r_bipush (v := (-2)) X (x_dr DX6_ages 10 rfl) (by decide) ?_
        exact r_iret X rfl (x_dr DX6_ages 11 rfl) ⟨_, rfl, h⟩
      · replace h := h.2 c3
        refine r_iload_n X (x_dr DX6_ages 7 rfl) 3 rfl rfl ?_
        refine r_iconst (v := 1) X (x_dr DX6_ages 8 rfl) (by decide) ?_
        refine r_icmp_le X 22 (x_dr DX6_ages 9 rfl) (by decide) (fun c4 => ?_) (fun c4 => ?_)
        · replace h := h.1 c4
          refine r_aload_n X (x_dr DX6_ages 12 rfl) 0 rfl rfl ?_
          refine r_iload_n X (x_dr DX6_ages 13 rfl) 1 rfl rfl ?_
          refine r_iload_n X (x_dr DX6_ages 14 rfl) 2 rfl rfl ?_
          refine cl6_sitAges X (k6_sitAges h) rfl ml_6_263 ⟨Nat.le_of_ble_eq_true rfl, Nat.le_of_ble_eq_true rfl⟩ (Nat.le_of_ble_eq_true rfl) (x_dr DX6_ages 15 rfl) (fun s5 h => ?_)
          refine r_iload_n X (x_dr DX6_ages 16 rfl) 3 rfl rfl ?_
          refine r_if_ne X 42 (x_dr DX6_ages 17 rfl) (by decide) (fun c6 => ?_) (fun c6 => ?_)
          · replace h := h.1 c6
            refine r_aload_n X (x_dr DX6_ages 22 rfl) 0 rfl rfl ?_
            refine gf_6_38 X rfl (x_dr DX6_ages 23 rfl) ?_
            refine cl2_governmentsInAll X (k2_governmentsInAll rfl h) rfl ml_6_178 ⟨Nat.le_of_ble_eq_true rfl, Nat.le_of_ble_eq_true rfl⟩ (Nat.le_of_ble_eq_true rfl) (x_dr DX6_ages 24 rfl) (fun v8 s7 h => ?_)
            exact r_iret X rfl (x_dr DX6_ages 25 rfl) ⟨_, rfl, h⟩
          · replace h := h.2 c6
            refine r_aload_n X (x_dr DX6_ages 18 rfl) 0 rfl rfl ?_
            refine gf_6_38 X rfl (x_dr DX6_ages 19 rfl) ?_
            refine cl2_carriedInAll X (k2_carriedInAll rfl h) rfl ml_6_181 ⟨Nat.le_of_ble_eq_true rfl, Nat.le_of_ble_eq_true rfl⟩ (Nat.le_of_ble_eq_true rfl) (x_dr DX6_ages 20 rfl) (fun v10 s9 h => ?_)
            refine r_goto X 49 (x_dr DX6_ages 21 rfl) (by decide) ?_
            exact r_iret X rfl (x_dr DX6_ages 25 rfl) ⟨_, rfl, h⟩
        · replace h := h.2 c4
          refine r_bipush (v := (-2)) X (x_dr DX6_ages 10 rfl) (by decide) ?_
          exact r_iret X rfl (x_dr DX6_ages 11 rfl) ⟨_, rfl, h⟩
set_option maxRecDepth 10000 in
theorem k6_isForm {ad : xAd} {G : xG} {l : Launch} {a0 : Int32} {σ : xSt} {Q : Int32 → xSt → Prop}  (h : d6_isForm a0 σ Q) : MC ad G l yX6_isForm cX6_isForm 1 (some .boolean) 0 0 [.int a0] σ (qZ Q) := by
  unfold d6_isForm at h
  refine x_MC [(0, .int a0)] (by decide +kernel) rfl (Nat.le_of_ble_eq_true rfl) ?_
  intro E hG hl X
  replace X : FX ad E cX6_isForm 1 RX6 (some .boolean) 0 0 := X
  refine r_iload_n X (x_dr DX6_isForm 0 rfl) 0 rfl rfl ?_
  refine r_if_lt X 13 (x_dr DX6_isForm 1 rfl) (by decide) (fun c1 => ?_) (fun c1 => ?_)
  · replace h := h.1 c1
    refine r_iconst (v := 0) X (x_dr DX6_isForm 7 rfl) (by decide) ?_
    exact r_zret X rfl (x_dr DX6_isForm 8 rfl) (Or.inl rfl) ⟨_, rfl, (Or.inl rfl), h⟩
  · replace h := h.2 c1
    refine r_iload_n X (x_dr DX6_isForm 2 rfl) 0 rfl rfl ?_
    refine r_iconst (v := 2) X (x_dr DX6_isForm 3 rfl) (by decide) ?_
    refine r_icmp_gt X 13 (x_dr DX6_isForm 4 rfl) (by decide) (fun c2 => ?_) (fun c2 => ?_)
    · replace h := h.1 c2
      refine r_iconst (v := 0) X (x_dr DX6_isForm 7 rfl) (by decide) ?_
      exact r_zret X rfl (x_dr DX6_isForm 8 rfl) (Or.inl rfl) ⟨_, rfl, (Or.inl rfl), h⟩
    · replace h := h.2 c2
      refine r_iconst (v := 1) X (x_dr DX6_isForm 5 rfl) (by decide) ?_
      refine r_goto X 14 (x_dr DX6_isForm 6 rfl) (by decide) ?_
      exact r_zret X rfl (x_dr DX6_isForm 8 rfl) (Or.inr rfl) ⟨_, rfl, (Or.inr rfl), h⟩
set_option maxRecDepth 10000 in
theorem k6_sheet {ad : xAd} {G : xG} {l : Launch} {a1 : Int32} {a2 : Int32} {a3 : Int32} {σ : xSt} {Q : Int32 → xSt → Prop}  (h : d6_sheet a1 a2 a3 σ Q) : MC ad G l yX6_sheet cX6_sheet 5 (some .int) 2 44 [.ref (ad 0 0 0), .int a1, .int a2, .int a3] σ (qI Q) := by
  unfold d6_sheet at h
  refine x_MC [(0, .ref (ad 0 0 0)), (1, .int a1), (2, .int a2), (3, .int a3)] (by decide +kernel) rfl (Nat.le_of_ble_eq_true rfl) ?_
  intro E hG hl X
  replace X : FX ad E cX6_sheet 5 RX6 (some .int) 2 44 := X
  refine r_aload_n X (x_dr DX6_sheet 0 rfl) 0 rfl rfl ?_
  refine r_iload_n X (x_dr DX6_sheet 1 rfl) 1 rfl rfl ?_
  refine cl6_sheetOf X (k6_sheetOf h) rfl ml_6_135 ⟨Nat.le_of_ble_eq_true rfl, Nat.le_of_ble_eq_true rfl⟩ (Nat.le_of_ble_eq_true rfl) (x_dr DX6_sheet 2 rfl) (fun s1 h => ?_) (fun s1 ob3 hob3 h => ?_)
  · replace h := h.1 rfl
    refine r_astoreN X ([(4, .null), (0, .ref (ad 0 0 0)), (1, .int a1), (2, .int a2), (3, .int a3)]) (x_dr DX6_sheet 3 rfl) (by decide) rfl ?_
    refine r_aloadN X (x_dr DX6_sheet 4 rfl) 0 rfl ?_
    refine r_ifnullN X 25 (x_dr DX6_sheet 5 rfl) (by decide) ?_
    refine r_bipush (v := (-2)) X (x_dr DX6_sheet 12 rfl) (by decide) ?_
    exact r_iret X rfl (x_dr DX6_sheet 13 rfl) ⟨_, rfl, h⟩
  · replace h := h.2 ob3 rfl hob3
    refine r_astore X ([(4, .ref (ad ob3 0 0)), (0, .ref (ad 0 0 0)), (1, .int a1), (2, .int a2), (3, .int a3)]) (x_dr DX6_sheet 3 rfl) (by decide) rfl ?_
    refine r_aload X (x_dr DX6_sheet 4 rfl) 0 rfl ?_
    refine r_ifnull X (x_dr DX6_sheet 5 rfl) ?_
    refine r_iload_n X (x_dr DX6_sheet 6 rfl) 3 rfl rfl ?_
    refine cl6_isForm X (k6_isForm h) ml_6_266 ⟨Nat.le_of_ble_eq_true rfl, Nat.le_of_ble_eq_true rfl⟩ (Nat.le_of_ble_eq_true rfl) (x_dr DX6_sheet 7 rfl) (fun v5 s4 zv5 h => ?_)
    refine r_if_eq X 25 (x_dr DX6_sheet 8 rfl) (by decide) (fun c6 => ?_) (fun c6 => ?_)
    · replace h := h.1 c6
      refine r_bipush (v := (-2)) X (x_dr DX6_sheet 12 rfl) (by decide) ?_
      exact r_iret X rfl (x_dr DX6_sheet 13 rfl) ⟨_, rfl, h⟩
    · replace h := h.2 c6
      refine r_iload_n X (x_dr DX6_sheet 9 rfl) 4 rfl rfl ?_
      refine r_bipush (v := 60) X (x_dr DX6_sheet 10 rfl) (by decide) ?_
      refine r_icmp_le X 28 (x_dr DX6_sheet 11 rfl) (by decide) (fun c7 => ?_) (fun c7 => ?_)
      · replace h := h.1 c7
        refine r_iload_n X (x_dr DX6_sheet 14 rfl) 4 rfl rfl ?_
        refine r_if_ge X 38 (x_dr DX6_sheet 15 rfl) (by decide) (fun c8 => ?_) (fun c8 => ?_)
        · replace h := h.1 c8
          refine r_aload X (x_dr DX6_sheet 20 rfl) 0 rfl ?_
          refine r_iload_n X (x_dr DX6_sheet 21 rfl) 3 rfl rfl ?_
          refine r_iload_n X (x_dr DX6_sheet 22 rfl) 4 rfl rfl ?_
          refine cl3_renew X (k3_renew hob3 h) hob3 ml_6_269 ⟨Nat.le_of_ble_eq_true rfl, Nat.le_of_ble_eq_true rfl⟩ (Nat.le_of_ble_eq_true rfl) (x_dr DX6_sheet 23 rfl) (fun s9 h => ?_)
          refine r_iload_n X (x_dr DX6_sheet 24 rfl) 4 rfl rfl ?_
          exact r_iret X rfl (x_dr DX6_sheet 25 rfl) ⟨_, rfl, h⟩
        · replace h := h.2 c8
          refine r_aload_n X (x_dr DX6_sheet 16 rfl) 1 rfl rfl ?_
          refine r_iconst (v := 5) X (x_dr DX6_sheet 17 rfl) (by decide) ?_
          refine cl6_finding X (k6_finding h) rfl ml_6_143 ⟨Nat.le_of_ble_eq_true rfl, Nat.le_of_ble_eq_true rfl⟩ (Nat.le_of_ble_eq_true rfl) (x_dr DX6_sheet 18 rfl) (fun v11 s10 h => ?_)
          exact r_iret X rfl (x_dr DX6_sheet 19 rfl) ⟨_, rfl, h⟩
      · replace h := h.2 c7
        refine r_bipush (v := (-2)) X (x_dr DX6_sheet 12 rfl) (by decide) ?_
        exact r_iret X rfl (x_dr DX6_sheet 13 rfl) ⟨_, rfl, h⟩
set_option maxRecDepth 10000 in
theorem k6_lose {ad : xAd} {G : xG} {l : Launch} {a1 : Int32} {σ : xSt} {Q : Int32 → xSt → Prop}  (h : d6_lose a1 σ Q) : MC ad G l yX6_lose cX6_lose 4 (some .int) 2 44 [.ref (ad 0 0 0), .int a1] σ (qI Q) := by
  unfold d6_lose at h
  refine x_MC [(0, .ref (ad 0 0 0)), (1, .int a1)] (by decide +kernel) rfl (Nat.le_of_ble_eq_true rfl) ?_
  intro E hG hl X
  replace X : FX ad E cX6_lose 4 RX6 (some .int) 2 44 := X
  refine r_aload_n X (x_dr DX6_lose 0 rfl) 0 rfl rfl ?_
  refine r_iload_n X (x_dr DX6_lose 1 rfl) 1 rfl rfl ?_
  refine cl6_sheetOf X (k6_sheetOf h) rfl ml_6_135 ⟨Nat.le_of_ble_eq_true rfl, Nat.le_of_ble_eq_true rfl⟩ (Nat.le_of_ble_eq_true rfl) (x_dr DX6_lose 2 rfl) (fun s1 h => ?_) (fun s1 ob3 hob3 h => ?_)
  · replace h := h.1 rfl
    refine r_astore_nN X ([(2, .null), (0, .ref (ad 0 0 0)), (1, .int a1)]) (x_dr DX6_lose 3 rfl) rfl (by decide) rfl ?_
    refine r_aload_nN X (x_dr DX6_lose 4 rfl) 0 rfl rfl ?_
    refine r_ifnonnullN X (x_dr DX6_lose 5 rfl) ?_
    refine r_bipush (v := (-2)) X (x_dr DX6_lose 6 rfl) (by decide) ?_
    exact r_iret X rfl (x_dr DX6_lose 7 rfl) ⟨_, rfl, h⟩
  · replace h := h.2 ob3 rfl hob3
    refine r_astore_n X ([(2, .ref (ad ob3 0 0)), (0, .ref (ad 0 0 0)), (1, .int a1)]) (x_dr DX6_lose 3 rfl) rfl (by decide) rfl ?_
    refine r_aload_n X (x_dr DX6_lose 4 rfl) 0 rfl rfl ?_
    refine r_ifnonnull X 13 (x_dr DX6_lose 5 rfl) (by decide) ?_
    refine r_aload_n X (x_dr DX6_lose 8 rfl) 0 rfl rfl ?_
    refine cl3_isLost X (k3_isLost hob3 h) hob3 ml_6_139 ⟨Nat.le_of_ble_eq_true rfl, Nat.le_of_ble_eq_true rfl⟩ (Nat.le_of_ble_eq_true rfl) (x_dr DX6_lose 9 rfl) (fun v5 s4 zv5 h => ?_)
    refine r_if_eq X 26 (x_dr DX6_lose 10 rfl) (by decide) (fun c6 => ?_) (fun c6 => ?_)
    · replace h := h.1 c6
      refine r_aload_n X (x_dr DX6_lose 15 rfl) 0 rfl rfl ?_
      refine gf_6_146 X hob3 (x_dr DX6_lose 16 rfl) ?_
      refine r_nmI (fun v7 ev7 => ?_)
      replace h := h v7 ev7
      refine r_istore_n X ([(3, .int v7), (2, .ref (ad ob3 0 0)), (0, .ref (ad 0 0 0)), (1, .int a1)]) (x_dr DX6_lose 17 rfl) rfl (by decide) rfl ?_
      refine r_aload_n X (x_dr DX6_lose 18 rfl) 1 rfl rfl ?_
      refine r_iconst (v := (-1)) X (x_dr DX6_lose 19 rfl) (by decide) ?_
      refine r_iconst (v := 0) X (x_dr DX6_lose 20 rfl) (by decide) ?_
      refine cl3_renew X (k3_renew hob3 h) hob3 ml_6_269 ⟨Nat.le_of_ble_eq_true rfl, Nat.le_of_ble_eq_true rfl⟩ (Nat.le_of_ble_eq_true rfl) (x_dr DX6_lose 21 rfl) (fun s8 h => ?_)
      refine r_iload_n X (x_dr DX6_lose 22 rfl) 0 rfl rfl ?_
      exact r_iret X rfl (x_dr DX6_lose 23 rfl) ⟨_, rfl, h⟩
    · replace h := h.2 c6
      refine r_aload_n X (x_dr DX6_lose 11 rfl) 1 rfl rfl ?_
      refine r_iconst (v := 1) X (x_dr DX6_lose 12 rfl) (by decide) ?_
      refine cl6_finding X (k6_finding h) rfl ml_6_143 ⟨Nat.le_of_ble_eq_true rfl, Nat.le_of_ble_eq_true rfl⟩ (Nat.le_of_ble_eq_true rfl) (x_dr DX6_lose 13 rfl) (fun v10 s9 h => ?_)
      exact r_iret X rfl (x_dr DX6_lose 14 rfl) ⟨_, rfl, h⟩
set_option maxRecDepth 10000 in
theorem k6_itemRefusal {ad : xAd} {G : xG} {l : Launch} {o1 : Nat} {a2 : Int32} {a3 : Int32} {σ : xSt} {Q : Int32 → xSt → Prop} (ho1 : x_cl o1 = 3) (h : d6_itemRefusal o1 a2 a3 σ Q) : MC ad G l yX6_itemRefusal cX6_itemRefusal 4 (some .int) 1 21 [.ref (ad 0 0 0), .ref (ad o1 0 0), .int a2, .int a3] σ (qI Q) := by
  unfold d6_itemRefusal at h
  refine x_MC [(0, .ref (ad 0 0 0)), (1, .ref (ad o1 0 0)), (2, .int a2), (3, .int a3)] (by decide +kernel) rfl (Nat.le_of_ble_eq_true rfl) ?_
  intro E hG hl X
  replace X : FX ad E cX6_itemRefusal 4 RX6 (some .int) 1 21 := X
  refine r_aload_n X (x_dr DX6_itemRefusal 0 rfl) 1 rfl rfl ?_
  refine r_ifnull X (x_dr DX6_itemRefusal 1 rfl) ?_
  refine r_aload_n X (x_dr DX6_itemRefusal 2 rfl) 1 rfl rfl ?_
  refine cl3_isLost X (k3_isLost ho1 h) ho1 ml_6_139 ⟨Nat.le_of_ble_eq_true rfl, Nat.le_of_ble_eq_true rfl⟩ (Nat.le_of_ble_eq_true rfl) (x_dr DX6_itemRefusal 3 rfl) (fun v2 s1 zv2 h => ?_)
  refine r_if_eq X 17 (x_dr DX6_itemRefusal 4 rfl) (by decide) (fun c3 => ?_) (fun c3 => ?_)
  · replace h := h.1 c3
    refine r_aload_n X (x_dr DX6_itemRefusal 9 rfl) 1 rfl rfl ?_
    refine gf_6_280 X ho1 (x_dr DX6_itemRefusal 10 rfl) ?_
    refine r_iload_n X (x_dr DX6_itemRefusal 11 rfl) 2 rfl rfl ?_
    refine r_icmp_eq X 31 (x_dr DX6_itemRefusal 12 rfl) (by decide) (fun c4 => ?_) (fun c4 => ?_)
    · replace h := h.1 c4
      refine r_aload_n X (x_dr DX6_itemRefusal 17 rfl) 1 rfl rfl ?_
      refine r_iload_n X (x_dr DX6_itemRefusal 18 rfl) 3 rfl rfl ?_
      refine cl3_hasItem X (k3_hasItem ho1 h) ho1 ml_6_380 ⟨Nat.le_of_ble_eq_true rfl, Nat.le_of_ble_eq_true rfl⟩ (Nat.le_of_ble_eq_true rfl) (x_dr DX6_itemRefusal 19 rfl) (fun v6 s5 zv6 h => ?_)
      refine r_if_eq X 43 (x_dr DX6_itemRefusal 20 rfl) (by decide) (fun c7 => ?_) (fun c7 => ?_)
      · replace h := h.1 c7
        refine r_aload_n X (x_dr DX6_itemRefusal 23 rfl) 0 rfl rfl ?_
        refine r_iconst (v := 2) X (x_dr DX6_itemRefusal 24 rfl) (by decide) ?_
        refine cl6_finding X (k6_finding h) rfl ml_6_143 ⟨Nat.le_of_ble_eq_true rfl, Nat.le_of_ble_eq_true rfl⟩ (Nat.le_of_ble_eq_true rfl) (x_dr DX6_itemRefusal 25 rfl) (fun v9 s8 h => ?_)
        exact r_iret X rfl (x_dr DX6_itemRefusal 26 rfl) ⟨_, rfl, h⟩
      · replace h := h.2 c7
        refine r_iconst (v := 0) X (x_dr DX6_itemRefusal 21 rfl) (by decide) ?_
        refine r_goto X 48 (x_dr DX6_itemRefusal 22 rfl) (by decide) ?_
        exact r_iret X rfl (x_dr DX6_itemRefusal 26 rfl) ⟨_, rfl, h⟩
    · replace h := h.2 c4
      refine r_aload_n X (x_dr DX6_itemRefusal 13 rfl) 0 rfl rfl ?_
      refine r_iconst (v := 3) X (x_dr DX6_itemRefusal 14 rfl) (by decide) ?_
      refine cl6_finding X (k6_finding h) rfl ml_6_143 ⟨Nat.le_of_ble_eq_true rfl, Nat.le_of_ble_eq_true rfl⟩ (Nat.le_of_ble_eq_true rfl) (x_dr DX6_itemRefusal 15 rfl) (fun v11 s10 h => ?_)
      exact r_iret X rfl (x_dr DX6_itemRefusal 16 rfl) ⟨_, rfl, h⟩
  · replace h := h.2 c3
    refine r_aload_n X (x_dr DX6_itemRefusal 5 rfl) 0 rfl rfl ?_
    refine r_iconst (v := 1) X (x_dr DX6_itemRefusal 6 rfl) (by decide) ?_
    refine cl6_finding X (k6_finding h) rfl ml_6_143 ⟨Nat.le_of_ble_eq_true rfl, Nat.le_of_ble_eq_true rfl⟩ (Nat.le_of_ble_eq_true rfl) (x_dr DX6_itemRefusal 7 rfl) (fun v13 s12 h => ?_)
    exact r_iret X rfl (x_dr DX6_itemRefusal 8 rfl) ⟨_, rfl, h⟩
set_option maxRecDepth 10000 in
theorem k6_put {ad : xAd} {G : xG} {l : Launch} {a1 : Int32} {a2 : Int32} {a3 : Int32} {a4 : Int32} {σ : xSt} {Q : Int32 → xSt → Prop}  (h : d6_put a1 a2 a3 a4 σ Q) : MC ad G l yX6_put cX6_put 7 (some .int) 2 44 [.ref (ad 0 0 0), .int a1, .int a2, .int a3, .int a4] σ (qI Q) := by
  unfold d6_put at h
  refine x_MC [(0, .ref (ad 0 0 0)), (1, .int a1), (2, .int a2), (3, .int a3), (4, .int a4)] (by decide +kernel) rfl (Nat.le_of_ble_eq_true rfl) ?_
  intro E hG hl X
  replace X : FX ad E cX6_put 7 RX6 (some .int) 2 44 := X
  refine r_aload_n X (x_dr DX6_put 0 rfl) 0 rfl rfl ?_
  refine r_iload_n X (x_dr DX6_put 1 rfl) 1 rfl rfl ?_
  refine cl6_sheetOf X (k6_sheetOf h) rfl ml_6_135 ⟨Nat.le_of_ble_eq_true rfl, Nat.le_of_ble_eq_true rfl⟩ (Nat.le_of_ble_eq_true rfl) (x_dr DX6_put 2 rfl) (fun s1 h => ?_) (fun s1 ob3 hob3 h => ?_)
  · replace h := h.1 rfl
    refine r_astoreN X ([(5, .null), (0, .ref (ad 0 0 0)), (1, .int a1), (2, .int a2), (3, .int a3), (4, .int a4)]) (x_dr DX6_put 3 rfl) (by decide) rfl ?_
    refine r_aloadN X (x_dr DX6_put 4 rfl) 0 rfl ?_
    refine r_ifnullN X 19 (x_dr DX6_put 5 rfl) (by decide) ?_
    refine r_bipush (v := (-2)) X (x_dr DX6_put 9 rfl) (by decide) ?_
    exact r_iret X rfl (x_dr DX6_put 10 rfl) ⟨_, rfl, h⟩
  · replace h := h.2 ob3 rfl hob3
    refine r_astore X ([(5, .ref (ad ob3 0 0)), (0, .ref (ad 0 0 0)), (1, .int a1), (2, .int a2), (3, .int a3), (4, .int a4)]) (x_dr DX6_put 3 rfl) (by decide) rfl ?_
    refine r_aload X (x_dr DX6_put 4 rfl) 0 rfl ?_
    refine r_ifnull X (x_dr DX6_put 5 rfl) ?_
    refine r_iload_n X (x_dr DX6_put 6 rfl) 3 rfl rfl ?_
    refine cl6_isForm X (k6_isForm h) ml_6_266 ⟨Nat.le_of_ble_eq_true rfl, Nat.le_of_ble_eq_true rfl⟩ (Nat.le_of_ble_eq_true rfl) (x_dr DX6_put 7 rfl) (fun v5 s4 zv5 h => ?_)
    refine r_if_ne X 22 (x_dr DX6_put 8 rfl) (by decide) (fun c6 => ?_) (fun c6 => ?_)
    · replace h := h.1 c6
      refine r_aload_n X (x_dr DX6_put 11 rfl) 1 rfl rfl ?_
      refine r_aload X (x_dr DX6_put 12 rfl) 0 rfl ?_
      refine r_iload_n X (x_dr DX6_put 13 rfl) 3 rfl rfl ?_
      refine r_iload_n X (x_dr DX6_put 14 rfl) 4 rfl rfl ?_
      refine cl6_itemRefusal X (k6_itemRefusal hob3 h) rfl ml_6_272 ⟨Nat.le_of_ble_eq_true rfl, Nat.le_of_ble_eq_true rfl⟩ (Nat.le_of_ble_eq_true rfl) (x_dr DX6_put 15 rfl) (fun v8 s7 h => ?_)
      refine r_istore X ([(6, .int v8), (5, .ref (ad ob3 0 0)), (0, .ref (ad 0 0 0)), (1, .int a1), (2, .int a2), (3, .int a3), (4, .int a4)]) (x_dr DX6_put 16 rfl) (by decide) rfl ?_
      refine r_iload X (x_dr DX6_put 17 rfl) 0 rfl ?_
      refine r_if_eq X 40 (x_dr DX6_put 18 rfl) (by decide) (fun c9 => ?_) (fun c9 => ?_)
      · replace h := h.1 c9
        refine r_aload X (x_dr DX6_put 21 rfl) 1 rfl ?_
        refine r_iload_n X (x_dr DX6_put 22 rfl) 5 rfl rfl ?_
        refine r_iload X (x_dr DX6_put 23 rfl) 6 rfl ?_
        refine cl3_setItem X (k3_setItem hob3 h) hob3 ml_6_276 ⟨Nat.le_of_ble_eq_true rfl, Nat.le_of_ble_eq_true rfl⟩ (Nat.le_of_ble_eq_true rfl) (x_dr DX6_put 24 rfl) (fun s10 h => ?_)
        refine r_iconst (v := 1) X (x_dr DX6_put 25 rfl) (by decide) ?_
        exact r_iret X rfl (x_dr DX6_put 26 rfl) ⟨_, rfl, h⟩
      · replace h := h.2 c9
        refine r_iload X (x_dr DX6_put 19 rfl) 0 rfl ?_
        exact r_iret X rfl (x_dr DX6_put 20 rfl) ⟨_, rfl, h⟩
    · replace h := h.2 c6
      refine r_bipush (v := (-2)) X (x_dr DX6_put 9 rfl) (by decide) ?_
      exact r_iret X rfl (x_dr DX6_put 10 rfl) ⟨_, rfl, h⟩
set_option maxRecDepth 10000 in
theorem k6_get {ad : xAd} {G : xG} {l : Launch} {a1 : Int32} {a2 : Int32} {a3 : Int32} {σ : xSt} {Q : Int32 → xSt → Prop}  (h : d6_get a1 a2 a3 σ Q) : MC ad G l yX6_get cX6_get 5 (some .int) 2 44 [.ref (ad 0 0 0), .int a1, .int a2, .int a3] σ (qI Q) := by
  unfold d6_get at h
  refine x_MC [(0, .ref (ad 0 0 0)), (1, .int a1), (2, .int a2), (3, .int a3)] (by decide +kernel) rfl (Nat.le_of_ble_eq_true rfl) ?_
  intro E hG hl X
  replace X : FX ad E cX6_get 5 RX6 (some .int) 2 44 := X
  refine r_aload_n X (x_dr DX6_get 0 rfl) 0 rfl rfl ?_
  refine r_iload_n X (x_dr DX6_get 1 rfl) 1 rfl rfl ?_
  refine cl6_sheetOf X (k6_sheetOf h) rfl ml_6_135 ⟨Nat.le_of_ble_eq_true rfl, Nat.le_of_ble_eq_true rfl⟩ (Nat.le_of_ble_eq_true rfl) (x_dr DX6_get 2 rfl) (fun s1 h => ?_) (fun s1 ob3 hob3 h => ?_)
  · replace h := h.1 rfl
    refine r_astoreN X ([(4, .null), (0, .ref (ad 0 0 0)), (1, .int a1), (2, .int a2), (3, .int a3)]) (x_dr DX6_get 3 rfl) (by decide) rfl ?_
    refine r_aloadN X (x_dr DX6_get 4 rfl) 0 rfl ?_
    refine r_ifnullN X 30 (x_dr DX6_get 5 rfl) (by decide) ?_
    refine r_ldcw X mk_6_279 (x_dr DX6_get 15 rfl) ?_
    exact r_iret X rfl (x_dr DX6_get 16 rfl) ⟨_, rfl, h⟩
  · replace h := h.2 ob3 rfl hob3
    refine r_astore X ([(4, .ref (ad ob3 0 0)), (0, .ref (ad 0 0 0)), (1, .int a1), (2, .int a2), (3, .int a3)]) (x_dr DX6_get 3 rfl) (by decide) rfl ?_
    refine r_aload X (x_dr DX6_get 4 rfl) 0 rfl ?_
    refine r_ifnull X (x_dr DX6_get 5 rfl) ?_
    refine r_iload_n X (x_dr DX6_get 6 rfl) 3 rfl rfl ?_
    refine cl6_isForm X (k6_isForm h) ml_6_266 ⟨Nat.le_of_ble_eq_true rfl, Nat.le_of_ble_eq_true rfl⟩ (Nat.le_of_ble_eq_true rfl) (x_dr DX6_get 7 rfl) (fun v5 s4 zv5 h => ?_)
    refine r_if_eq X 30 (x_dr DX6_get 8 rfl) (by decide) (fun c6 => ?_) (fun c6 => ?_)
    · replace h := h.1 c6
      refine r_ldcw X mk_6_279 (x_dr DX6_get 15 rfl) ?_
      exact r_iret X rfl (x_dr DX6_get 16 rfl) ⟨_, rfl, h⟩
    · replace h := h.2 c6
      refine r_aload_n X (x_dr DX6_get 9 rfl) 1 rfl rfl ?_
      refine r_aload X (x_dr DX6_get 10 rfl) 0 rfl ?_
      refine r_iload_n X (x_dr DX6_get 11 rfl) 3 rfl rfl ?_
      refine r_iload_n X (x_dr DX6_get 12 rfl) 4 rfl rfl ?_
      refine cl6_itemRefusal X (k6_itemRefusal hob3 h) rfl ml_6_272 ⟨Nat.le_of_ble_eq_true rfl, Nat.le_of_ble_eq_true rfl⟩ (Nat.le_of_ble_eq_true rfl) (x_dr DX6_get 13 rfl) (fun v8 s7 h => ?_)
      refine r_if_eq X 34 (x_dr DX6_get 14 rfl) (by decide) (fun c9 => ?_) (fun c9 => ?_)
      · replace h := h.1 c9
        refine r_aload X (x_dr DX6_get 17 rfl) 0 rfl ?_
        refine r_iload_n X (x_dr DX6_get 18 rfl) 4 rfl rfl ?_
        refine cl3_item X (k3_item hob3 h) hob3 ml_6_148 ⟨Nat.le_of_ble_eq_true rfl, Nat.le_of_ble_eq_true rfl⟩ (Nat.le_of_ble_eq_true rfl) (x_dr DX6_get 19 rfl) (fun v11 s10 h => ?_)
        exact r_iret X rfl (x_dr DX6_get 20 rfl) ⟨_, rfl, h⟩
      · replace h := h.2 c9
        refine r_ldcw X mk_6_279 (x_dr DX6_get 15 rfl) ?_
        exact r_iret X rfl (x_dr DX6_get 16 rfl) ⟨_, rfl, h⟩
set_option maxRecDepth 10000 in
theorem k6_copy {ad : xAd} {G : xG} {l : Launch} {a1 : Int32} {a2 : Int32} {a3 : Int32} {a4 : Int32} {a5 : Int32} {σ : xSt} {Q : Int32 → xSt → Prop}  (h : d6_copy a1 a2 a3 a4 a5 σ Q) : MC ad G l yX6_copy cX6_copy 8 (some .int) 2 72 [.ref (ad 0 0 0), .int a1, .int a2, .int a3, .int a4, .int a5] σ (qI Q) := by
  unfold d6_copy at h
  refine x_MC [(0, .ref (ad 0 0 0)), (1, .int a1), (2, .int a2), (3, .int a3), (4, .int a4), (5, .int a5)] (by decide +kernel) rfl (Nat.le_of_ble_eq_true rfl) ?_
  intro E hG hl X
  replace X : FX ad E cX6_copy 8 RX6 (some .int) 2 72 := X
  refine r_aload_n X (x_dr DX6_copy 0 rfl) 0 rfl rfl ?_
  refine r_iload_n X (x_dr DX6_copy 1 rfl) 1 rfl rfl ?_
  refine cl6_sheetOf X (k6_sheetOf h) rfl ml_6_135 ⟨Nat.le_of_ble_eq_true rfl, Nat.le_of_ble_eq_true rfl⟩ (Nat.le_of_ble_eq_true rfl) (x_dr DX6_copy 2 rfl) (fun s1 h => ?_) (fun s1 ob3 hob3 h => ?_)
  · replace h := h.1 rfl
    refine r_astoreN X ([(6, .null), (0, .ref (ad 0 0 0)), (1, .int a1), (2, .int a2), (3, .int a3), (4, .int a4), (5, .int a5)]) (x_dr DX6_copy 3 rfl) (by decide) rfl ?_
    refine r_aload_n X (x_dr DX6_copy 4 rfl) 1 rfl rfl ?_
    refine r_iload_n X (x_dr DX6_copy 5 rfl) 4 rfl rfl ?_
    refine cl6_sheetOf X (k6_sheetOf h) rfl ml_6_135 ⟨Nat.le_of_ble_eq_true rfl, Nat.le_of_ble_eq_true rfl⟩ (Nat.le_of_ble_eq_true rfl) (x_dr DX6_copy 6 rfl) (fun s4 h => ?_) (fun s4 ob6 hob6 h => ?_)
    · replace h := h.1 rfl
      refine r_astoreN X ([(7, .null), (6, .null), (0, .ref (ad 0 0 0)), (1, .int a1), (2, .int a2), (3, .int a3), (4, .int a4), (5, .int a5)]) (x_dr DX6_copy 7 rfl) (by decide) rfl ?_
      refine r_aloadN X (x_dr DX6_copy 8 rfl) 1 rfl ?_
      refine r_ifnullN X 24 (x_dr DX6_copy 9 rfl) (by decide) ?_
      refine r_bipush (v := (-2)) X (x_dr DX6_copy 12 rfl) (by decide) ?_
      exact r_iret X rfl (x_dr DX6_copy 13 rfl) ⟨_, rfl, h⟩
    · replace h := h.2 ob6 rfl hob6
      refine r_astore X ([(7, .ref (ad ob6 0 0)), (6, .null), (0, .ref (ad 0 0 0)), (1, .int a1), (2, .int a2), (3, .int a3), (4, .int a4), (5, .int a5)]) (x_dr DX6_copy 7 rfl) (by decide) rfl ?_
      refine r_aloadN X (x_dr DX6_copy 8 rfl) 1 rfl ?_
      refine r_ifnullN X 24 (x_dr DX6_copy 9 rfl) (by decide) ?_
      refine r_bipush (v := (-2)) X (x_dr DX6_copy 12 rfl) (by decide) ?_
      exact r_iret X rfl (x_dr DX6_copy 13 rfl) ⟨_, rfl, h⟩
  · replace h := h.2 ob3 rfl hob3
    refine r_astore X ([(6, .ref (ad ob3 0 0)), (0, .ref (ad 0 0 0)), (1, .int a1), (2, .int a2), (3, .int a3), (4, .int a4), (5, .int a5)]) (x_dr DX6_copy 3 rfl) (by decide) rfl ?_
    refine r_aload_n X (x_dr DX6_copy 4 rfl) 1 rfl rfl ?_
    refine r_iload_n X (x_dr DX6_copy 5 rfl) 4 rfl rfl ?_
    refine cl6_sheetOf X (k6_sheetOf h) rfl ml_6_135 ⟨Nat.le_of_ble_eq_true rfl, Nat.le_of_ble_eq_true rfl⟩ (Nat.le_of_ble_eq_true rfl) (x_dr DX6_copy 6 rfl) (fun s7 h => ?_) (fun s7 ob9 hob9 h => ?_)
    · replace h := h.1 rfl
      refine r_astoreN X ([(7, .null), (6, .ref (ad ob3 0 0)), (0, .ref (ad 0 0 0)), (1, .int a1), (2, .int a2), (3, .int a3), (4, .int a4), (5, .int a5)]) (x_dr DX6_copy 7 rfl) (by decide) rfl ?_
      refine r_aload X (x_dr DX6_copy 8 rfl) 1 rfl ?_
      refine r_ifnull X (x_dr DX6_copy 9 rfl) ?_
      refine r_aloadN X (x_dr DX6_copy 10 rfl) 0 rfl ?_
      refine r_ifnonnullN X (x_dr DX6_copy 11 rfl) ?_
      refine r_bipush (v := (-2)) X (x_dr DX6_copy 12 rfl) (by decide) ?_
      exact r_iret X rfl (x_dr DX6_copy 13 rfl) ⟨_, rfl, h⟩
    · replace h := h.2 ob9 rfl hob9
      refine r_astore X ([(7, .ref (ad ob9 0 0)), (6, .ref (ad ob3 0 0)), (0, .ref (ad 0 0 0)), (1, .int a1), (2, .int a2), (3, .int a3), (4, .int a4), (5, .int a5)]) (x_dr DX6_copy 7 rfl) (by decide) rfl ?_
      refine r_aload X (x_dr DX6_copy 8 rfl) 1 rfl ?_
      refine r_ifnull X (x_dr DX6_copy 9 rfl) ?_
      refine r_aload X (x_dr DX6_copy 10 rfl) 0 rfl ?_
      refine r_ifnonnull X 27 (x_dr DX6_copy 11 rfl) (by decide) ?_
      refine r_aload X (x_dr DX6_copy 14 rfl) 1 rfl ?_
      refine cl3_isLost X (k3_isLost hob3 h) hob3 ml_6_139 ⟨Nat.le_of_ble_eq_true rfl, Nat.le_of_ble_eq_true rfl⟩ (Nat.le_of_ble_eq_true rfl) (x_dr DX6_copy 15 rfl) (fun v11 s10 zv11 h => ?_)
      refine r_if_ne X 43 (x_dr DX6_copy 16 rfl) (by decide) (fun c12 => ?_) (fun c12 => ?_)
      · replace h := h.1 c12
        refine r_aload_n X (x_dr DX6_copy 20 rfl) 2 rfl rfl ?_
        refine r_iconst (v := 1) X (x_dr DX6_copy 21 rfl) (by decide) ?_
        refine cl6_finding X (k6_finding h) rfl ml_6_143 ⟨Nat.le_of_ble_eq_true rfl, Nat.le_of_ble_eq_true rfl⟩ (Nat.le_of_ble_eq_true rfl) (x_dr DX6_copy 22 rfl) (fun v14 s13 h => ?_)
        exact r_iret X rfl (x_dr DX6_copy 23 rfl) ⟨_, rfl, h⟩
      · replace h := h.2 c12
        refine r_aload X (x_dr DX6_copy 17 rfl) 0 rfl ?_
        refine cl3_isLost X (k3_isLost hob9 h) hob9 ml_6_139 ⟨Nat.le_of_ble_eq_true rfl, Nat.le_of_ble_eq_true rfl⟩ (Nat.le_of_ble_eq_true rfl) (x_dr DX6_copy 18 rfl) (fun v16 s15 zv16 h => ?_)
        refine r_if_eq X 49 (x_dr DX6_copy 19 rfl) (by decide) (fun c17 => ?_) (fun c17 => ?_)
        · replace h := h.1 c17
          refine r_aload X (x_dr DX6_copy 24 rfl) 1 rfl ?_
          refine gf_6_280 X hob3 (x_dr DX6_copy 25 rfl) ?_
          refine r_aload X (x_dr DX6_copy 26 rfl) 0 rfl ?_
          refine gf_6_280 X hob9 (x_dr DX6_copy 27 rfl) ?_
          refine r_icmp_eq X 68 (x_dr DX6_copy 28 rfl) (by decide) (fun c18 => ?_) (fun c18 => ?_)
          · replace h := h.1 c18
            refine r_aload X (x_dr DX6_copy 33 rfl) 1 rfl ?_
            refine r_iload_n X (x_dr DX6_copy 34 rfl) 4 rfl rfl ?_
            refine r_iload X (x_dr DX6_copy 35 rfl) 7 rfl ?_
            refine cl3_hasRun X (k3_hasRun hob3 h) hob3 ml_6_283 ⟨Nat.le_of_ble_eq_true rfl, Nat.le_of_ble_eq_true rfl⟩ (Nat.le_of_ble_eq_true rfl) (x_dr DX6_copy 36 rfl) (fun v20 s19 zv20 h => ?_)
            refine r_if_eq X 91 (x_dr DX6_copy 37 rfl) (by decide) (fun c21 => ?_) (fun c21 => ?_)
            · replace h := h.1 c21
              refine r_aload_n X (x_dr DX6_copy 43 rfl) 2 rfl rfl ?_
              refine r_iconst (v := 2) X (x_dr DX6_copy 44 rfl) (by decide) ?_
              refine cl6_finding X (k6_finding h) rfl ml_6_143 ⟨Nat.le_of_ble_eq_true rfl, Nat.le_of_ble_eq_true rfl⟩ (Nat.le_of_ble_eq_true rfl) (x_dr DX6_copy 45 rfl) (fun v23 s22 h => ?_)
              exact r_iret X rfl (x_dr DX6_copy 46 rfl) ⟨_, rfl, h⟩
            · replace h := h.2 c21
              refine r_aload X (x_dr DX6_copy 38 rfl) 0 rfl ?_
              refine r_iload X (x_dr DX6_copy 39 rfl) 6 rfl ?_
              refine r_iload X (x_dr DX6_copy 40 rfl) 7 rfl ?_
              refine cl3_hasRun X (k3_hasRun hob9 h) hob9 ml_6_283 ⟨Nat.le_of_ble_eq_true rfl, Nat.le_of_ble_eq_true rfl⟩ (Nat.le_of_ble_eq_true rfl) (x_dr DX6_copy 41 rfl) (fun v25 s24 zv25 h => ?_)
              refine r_if_ne X 97 (x_dr DX6_copy 42 rfl) (by decide) (fun c26 => ?_) (fun c26 => ?_)
              · replace h := h.1 c26
                refine r_aload X (x_dr DX6_copy 47 rfl) 0 rfl ?_
                refine r_aload X (x_dr DX6_copy 48 rfl) 1 rfl ?_
                refine r_iload_n X (x_dr DX6_copy 49 rfl) 4 rfl rfl ?_
                refine r_iload X (x_dr DX6_copy 50 rfl) 6 rfl ?_
                refine r_iload X (x_dr DX6_copy 51 rfl) 7 rfl ?_
                refine cl3_takeRun X (k3_takeRun hob9 hob3 h) hob9 ml_6_287 ⟨Nat.le_of_ble_eq_true rfl, Nat.le_of_ble_eq_true rfl⟩ (Nat.le_of_ble_eq_true rfl) (x_dr DX6_copy 52 rfl) (fun s27 h => ?_)
                refine r_iconst (v := 1) X (x_dr DX6_copy 53 rfl) (by decide) ?_
                exact r_iret X rfl (x_dr DX6_copy 54 rfl) ⟨_, rfl, h⟩
              · replace h := h.2 c26
                refine r_aload_n X (x_dr DX6_copy 43 rfl) 2 rfl rfl ?_
                refine r_iconst (v := 2) X (x_dr DX6_copy 44 rfl) (by decide) ?_
                refine cl6_finding X (k6_finding h) rfl ml_6_143 ⟨Nat.le_of_ble_eq_true rfl, Nat.le_of_ble_eq_true rfl⟩ (Nat.le_of_ble_eq_true rfl) (x_dr DX6_copy 45 rfl) (fun v29 s28 h => ?_)
                exact r_iret X rfl (x_dr DX6_copy 46 rfl) ⟨_, rfl, h⟩
          · replace h := h.2 c18
            refine r_aload_n X (x_dr DX6_copy 29 rfl) 2 rfl rfl ?_
            refine r_iconst (v := 4) X (x_dr DX6_copy 30 rfl) (by decide) ?_
            refine cl6_finding X (k6_finding h) rfl ml_6_143 ⟨Nat.le_of_ble_eq_true rfl, Nat.le_of_ble_eq_true rfl⟩ (Nat.le_of_ble_eq_true rfl) (x_dr DX6_copy 31 rfl) (fun v31 s30 h => ?_)
            exact r_iret X rfl (x_dr DX6_copy 32 rfl) ⟨_, rfl, h⟩
        · replace h := h.2 c17
          refine r_aload_n X (x_dr DX6_copy 20 rfl) 2 rfl rfl ?_
          refine r_iconst (v := 1) X (x_dr DX6_copy 21 rfl) (by decide) ?_
          refine cl6_finding X (k6_finding h) rfl ml_6_143 ⟨Nat.le_of_ble_eq_true rfl, Nat.le_of_ble_eq_true rfl⟩ (Nat.le_of_ble_eq_true rfl) (x_dr DX6_copy 22 rfl) (fun v33 s32 h => ?_)
          exact r_iret X rfl (x_dr DX6_copy 23 rfl) ⟨_, rfl, h⟩
set_option maxRecDepth 10000 in
theorem w6_write_L53 {ad : xAd} {E : xE} (X : FX ad E cX6_write 7 RX6 (some .int) 4 90) {ob3 : Nat} (hob3 : x_cl ob3 = 3) {a1 : Int32} {a4 : Int32} {K : xSt → Prop} {Q : Int32 → xSt → Prop} : ∀ (n : Nat) (a6 : Int32) (σ : xSt), d6_write_L53 ob3 a1 a4 K Q n a6 σ → (∀ (s : xSt), K  s → KK ad E (qI Q) 80 ([(4, .int a4)]) [] s) → KK ad E (qI Q) 53 ([(1, .int a1), (3, .ref (ad ob3 0 0)), (4, .int a4), (5, .ref (ad 5 0 0)), (6, .int a6)]) [] σ := by
  intro n
  induction n with
  | zero => intro a6 σ h kk; exact h.elim
  | succ n ih =>
    intro a6 σ h kk
    rw [d6_write_L53] at h
    refine r_iload X (x_dr DX6_write 28 rfl) 4 rfl ?_
    refine r_iload X (x_dr DX6_write 29 rfl) 2 rfl ?_
    refine r_icmp_ge X 80 (x_dr DX6_write 30 rfl) (by decide) (fun c15 => ?_) (fun c15 => ?_)
    · replace h := h.1 c15
      refine r_norm X [2] ([(4, .int a4)]) rfl ?_
      exact kk  _ h
    · replace h := h.2 c15
      refine r_aload_n X (x_dr DX6_write 31 rfl) 1 rfl rfl ?_
      refine r_iload X (x_dr DX6_write 32 rfl) 4 rfl ?_
      refine r_aload X (x_dr DX6_write 33 rfl) 3 rfl ?_
      refine r_iload_n X (x_dr DX6_write 34 rfl) 0 rfl rfl ?_
      refine r_iload X (x_dr DX6_write 35 rfl) 4 rfl ?_
      refine cl2_dampOf X (k2_dampOf rfl h) rfl ml_6_159 ⟨Nat.le_of_ble_eq_true rfl, Nat.le_of_ble_eq_true rfl⟩ (Nat.le_of_ble_eq_true rfl) (x_dr DX6_write 36 rfl) (fun v17 s16 h => ?_)
      refine cl3_setItem X (k3_setItem hob3 h) hob3 ml_6_276 ⟨Nat.le_of_ble_eq_true rfl, Nat.le_of_ble_eq_true rfl⟩ (Nat.le_of_ble_eq_true rfl) (x_dr DX6_write 37 rfl) (fun s18 h => ?_)
      obtain ⟨v19, ev19⟩ : ∃ z : Int32, z = a6 + 1 := ⟨_, rfl⟩
      replace h := h v19 ev19
      refine r_iinc (v := v19) X ([(6, .int v19), (1, .int a1), (3, .ref (ad ob3 0 0)), (4, .int a4), (5, .ref (ad 5 0 0))]) 4 (x_dr DX6_write 38 rfl) rfl (by rw [ev19]; rfl) (by decide) rfl ?_
      refine r_goto X 53 (x_dr DX6_write 39 rfl) (by decide) ?_
      refine r_norm X [1, 2, 3, 4, 0] ([(1, .int a1), (3, .ref (ad ob3 0 0)), (4, .int a4), (5, .ref (ad 5 0 0)), (6, .int v19)]) rfl ?_
      exact ih _ _ h kk
set_option maxRecDepth 10000 in
theorem k6_write {ad : xAd} {G : xG} {l : Launch} {a1 : Int32} {a2 : Int32} {σ : xSt} {Q : Int32 → xSt → Prop}  (h : d6_write a1 a2 σ Q) : MC ad G l yX6_write cX6_write 7 (some .int) 4 90 [.ref (ad 0 0 0), .int a1, .int a2] σ (qI Q) := by
  unfold d6_write at h
  refine x_MC [(0, .ref (ad 0 0 0)), (1, .int a1), (2, .int a2)] (by decide +kernel) rfl (Nat.le_of_ble_eq_true rfl) ?_
  intro E hG hl X
  replace X : FX ad E cX6_write 7 RX6 (some .int) 4 90 := X
  refine r_aload_n X (x_dr DX6_write 0 rfl) 0 rfl rfl ?_
  refine r_iload_n X (x_dr DX6_write 1 rfl) 2 rfl rfl ?_
  refine cl6_sheetOf X (k6_sheetOf h) rfl ml_6_135 ⟨Nat.le_of_ble_eq_true rfl, Nat.le_of_ble_eq_true rfl⟩ (Nat.le_of_ble_eq_true rfl) (x_dr DX6_write 2 rfl) (fun s1 h => ?_) (fun s1 ob3 hob3 h => ?_)
  · replace h := h.1 rfl
    refine r_astore_nN X ([(3, .null), (0, .ref (ad 0 0 0)), (1, .int a1), (2, .int a2)]) (x_dr DX6_write 3 rfl) rfl (by decide) rfl ?_
    refine r_iload_n X (x_dr DX6_write 4 rfl) 2 rfl rfl ?_
    refine cl6_isHour X (k6_isHour h) ml_6_121 ⟨Nat.le_of_ble_eq_true rfl, Nat.le_of_ble_eq_true rfl⟩ (Nat.le_of_ble_eq_true rfl) (x_dr DX6_write 5 rfl) (fun v5 s4 zv5 h => ?_)
    refine r_if_eq X 17 (x_dr DX6_write 6 rfl) (by decide) (fun c6 => ?_) (fun c6 => ?_)
    · replace h := h.1 c6
      refine r_bipush (v := (-2)) X (x_dr DX6_write 9 rfl) (by decide) ?_
      exact r_iret X rfl (x_dr DX6_write 10 rfl) ⟨_, rfl, h⟩
    · replace h := h.2 c6
      refine r_aload_nN X (x_dr DX6_write 7 rfl) 0 rfl rfl ?_
      refine r_ifnonnullN X (x_dr DX6_write 8 rfl) ?_
      refine r_bipush (v := (-2)) X (x_dr DX6_write 9 rfl) (by decide) ?_
      exact r_iret X rfl (x_dr DX6_write 10 rfl) ⟨_, rfl, h⟩
  · replace h := h.2 ob3 rfl hob3
    refine r_astore_n X ([(3, .ref (ad ob3 0 0)), (0, .ref (ad 0 0 0)), (1, .int a1), (2, .int a2)]) (x_dr DX6_write 3 rfl) rfl (by decide) rfl ?_
    refine r_iload_n X (x_dr DX6_write 4 rfl) 2 rfl rfl ?_
    refine cl6_isHour X (k6_isHour h) ml_6_121 ⟨Nat.le_of_ble_eq_true rfl, Nat.le_of_ble_eq_true rfl⟩ (Nat.le_of_ble_eq_true rfl) (x_dr DX6_write 5 rfl) (fun v8 s7 zv8 h => ?_)
    refine r_if_eq X 17 (x_dr DX6_write 6 rfl) (by decide) (fun c9 => ?_) (fun c9 => ?_)
    · replace h := h.1 c9
      refine r_bipush (v := (-2)) X (x_dr DX6_write 9 rfl) (by decide) ?_
      exact r_iret X rfl (x_dr DX6_write 10 rfl) ⟨_, rfl, h⟩
    · replace h := h.2 c9
      refine r_aload_n X (x_dr DX6_write 7 rfl) 0 rfl rfl ?_
      refine r_ifnonnull X 20 (x_dr DX6_write 8 rfl) (by decide) ?_
      refine r_aload_n X (x_dr DX6_write 11 rfl) 0 rfl rfl ?_
      refine cl3_isLost X (k3_isLost hob3 h) hob3 ml_6_139 ⟨Nat.le_of_ble_eq_true rfl, Nat.le_of_ble_eq_true rfl⟩ (Nat.le_of_ble_eq_true rfl) (x_dr DX6_write 12 rfl) (fun v11 s10 zv11 h => ?_)
      refine r_if_eq X 33 (x_dr DX6_write 13 rfl) (by decide) (fun c12 => ?_) (fun c12 => ?_)
      · replace h := h.1 c12
        refine r_aload_n X (x_dr DX6_write 18 rfl) 0 rfl rfl ?_
        refine gf_6_146 X hob3 (x_dr DX6_write 19 rfl) ?_
        refine r_bipush (v := 12) X (x_dr DX6_write 20 rfl) (by decide) ?_
        refine r_mmin X ml_6_291 ⟨Nat.le_of_ble_eq_true rfl, Nat.le_of_ble_eq_true rfl⟩ (x_dr DX6_write 21 rfl) ?_
        refine r_nmI (fun v13 ev13 => ?_)
        replace h := h v13 ev13
        refine r_istore X ([(4, .int v13), (3, .ref (ad ob3 0 0)), (0, .ref (ad 0 0 0)), (1, .int a1), (2, .int a2)]) (x_dr DX6_write 22 rfl) (by decide) rfl ?_
        refine r_aload_n X (x_dr DX6_write 23 rfl) 2 rfl rfl ?_
        refine cl6_chamberAsTold X (k6_chamberAsTold h) rfl ml_6_155 ⟨Nat.le_of_ble_eq_true rfl, Nat.le_of_ble_eq_true rfl⟩ (Nat.le_of_ble_eq_true rfl) (x_dr DX6_write 24 rfl) (fun s14 h => ?_)
        refine r_astore X ([(5, .ref (ad 5 0 0)), (4, .int v13), (3, .ref (ad ob3 0 0)), (0, .ref (ad 0 0 0)), (1, .int a1), (2, .int a2)]) (x_dr DX6_write 25 rfl) (by decide) rfl ?_
        refine r_iconst (v := 0) X (x_dr DX6_write 26 rfl) (by decide) ?_
        refine r_istore X ([(6, .int 0), (5, .ref (ad 5 0 0)), (4, .int v13), (3, .ref (ad ob3 0 0)), (0, .ref (ad 0 0 0)), (1, .int a1), (2, .int a2)]) (x_dr DX6_write 27 rfl) (by decide) rfl ?_
        refine r_norm X [5, 3, 2, 1, 0] ([(1, .int a1), (3, .ref (ad ob3 0 0)), (4, .int v13), (5, .ref (ad 5 0 0)), (6, .int 0)]) rfl ?_
        refine w6_write_L53 X hob3 _ _ _ h (fun s20 h => ?_)
        refine r_iload X (x_dr DX6_write 40 rfl) 0 rfl ?_
        exact r_iret X rfl (x_dr DX6_write 41 rfl) ⟨_, rfl, h⟩
      · replace h := h.2 c12
        refine r_aload_n X (x_dr DX6_write 14 rfl) 1 rfl rfl ?_
        refine r_iconst (v := 1) X (x_dr DX6_write 15 rfl) (by decide) ?_
        refine cl6_finding X (k6_finding h) rfl ml_6_143 ⟨Nat.le_of_ble_eq_true rfl, Nat.le_of_ble_eq_true rfl⟩ (Nat.le_of_ble_eq_true rfl) (x_dr DX6_write 16 rfl) (fun v22 s21 h => ?_)
        exact r_iret X rfl (x_dr DX6_write 17 rfl) ⟨_, rfl, h⟩
set_option maxRecDepth 10000 in
theorem k6_count {ad : xAd} {G : xG} {l : Launch} {a1 : Int32} {σ : xSt} {Q : Int32 → xSt → Prop}  (h : d6_count a1 σ Q) : MC ad G l yX6_count cX6_count 2 (some .int) 4 90 [.ref (ad 0 0 0), .int a1] σ (qI Q) := by
  unfold d6_count at h
  refine x_MC [(0, .ref (ad 0 0 0)), (1, .int a1)] (by decide +kernel) rfl (Nat.le_of_ble_eq_true rfl) ?_
  intro E hG hl X
  replace X : FX ad E cX6_count 2 RX6 (some .int) 4 90 := X
  refine r_iload_n X (x_dr DX6_count 0 rfl) 1 rfl rfl ?_
  by_cases c1 : a1 = 0
  · replace h := h.1 c1
    refine r_tabIn X (off := 51) 52 (x_dr DX6_count 1 rfl) (by rw [c1]; decide) (by rw [c1]; decide) (by rw [c1]; rfl) (by decide) ?_
    refine r_aload_n X (x_dr DX6_count 2 rfl) 0 rfl rfl ?_
    refine gf_6_24 X rfl (x_dr DX6_count 3 rfl) ?_
    refine gf_6_184 X rfl (x_dr DX6_count 4 rfl) ?_
    exact r_iret X rfl (x_dr DX6_count 5 rfl) ⟨_, rfl, h⟩
  · replace h := h.2 c1
    by_cases c2 : a1 = 1
    · replace h := h.1 c2
      refine r_tabIn X (off := 59) 60 (x_dr DX6_count 1 rfl) (by rw [c2]; decide) (by rw [c2]; decide) (by rw [c2]; rfl) (by decide) ?_
      refine r_aload_n X (x_dr DX6_count 6 rfl) 0 rfl rfl ?_
      refine gf_6_24 X rfl (x_dr DX6_count 7 rfl) ?_
      refine gf_6_124 X rfl (x_dr DX6_count 8 rfl) ?_
      exact r_iret X rfl (x_dr DX6_count 9 rfl) ⟨_, rfl, h⟩
    · replace h := h.2 c2
      by_cases c3 : a1 = 2
      · replace h := h.1 c3
        refine r_tabIn X (off := 67) 68 (x_dr DX6_count 1 rfl) (by rw [c3]; decide) (by rw [c3]; decide) (by rw [c3]; rfl) (by decide) ?_
        refine r_aload_n X (x_dr DX6_count 10 rfl) 0 rfl rfl ?_
        refine gf_6_14 X rfl (x_dr DX6_count 11 rfl) ?_
        refine cl5_size X (k5_size rfl h) rfl ml_6_89 ⟨Nat.le_of_ble_eq_true rfl, Nat.le_of_ble_eq_true rfl⟩ (Nat.le_of_ble_eq_true rfl) (x_dr DX6_count 12 rfl) (fun v5 s4 h => ?_)
        exact r_iret X rfl (x_dr DX6_count 13 rfl) ⟨_, rfl, h⟩
      · replace h := h.2 c3
        by_cases c6 : a1 = 3
        · replace h := h.1 c6
          refine r_tabIn X (off := 75) 76 (x_dr DX6_count 1 rfl) (by rw [c6]; decide) (by rw [c6]; decide) (by rw [c6]; rfl) (by decide) ?_
          refine r_aload_n X (x_dr DX6_count 14 rfl) 0 rfl rfl ?_
          refine gf_6_18 X rfl (x_dr DX6_count 15 rfl) ?_
          refine cl5_size X (k5_size rfl h) rfl ml_6_89 ⟨Nat.le_of_ble_eq_true rfl, Nat.le_of_ble_eq_true rfl⟩ (Nat.le_of_ble_eq_true rfl) (x_dr DX6_count 16 rfl) (fun v8 s7 h => ?_)
          exact r_iret X rfl (x_dr DX6_count 17 rfl) ⟨_, rfl, h⟩
        · replace h := h.2 c6
          by_cases c9 : a1 = 4
          · replace h := h.1 c9
            refine r_tabIn X (off := 83) 84 (x_dr DX6_count 1 rfl) (by rw [c9]; decide) (by rw [c9]; decide) (by rw [c9]; rfl) (by decide) ?_
            refine r_aload_n X (x_dr DX6_count 18 rfl) 0 rfl rfl ?_
            refine cl6_chamberAsTold X (k6_chamberAsTold h) rfl ml_6_155 ⟨Nat.le_of_ble_eq_true rfl, Nat.le_of_ble_eq_true rfl⟩ (Nat.le_of_ble_eq_true rfl) (x_dr DX6_count 19 rfl) (fun s10 h => ?_)
            refine cl2_speechesInAll X (k2_speechesInAll rfl h) rfl ml_6_296 ⟨Nat.le_of_ble_eq_true rfl, Nat.le_of_ble_eq_true rfl⟩ (Nat.le_of_ble_eq_true rfl) (x_dr DX6_count 20 rfl) (fun v12 s11 h => ?_)
            exact r_iret X rfl (x_dr DX6_count 21 rfl) ⟨_, rfl, h⟩
          · replace h := h.2 c9
            by_cases c13 : a1 = 5
            · replace h := h.1 c13
              refine r_tabIn X (off := 91) 92 (x_dr DX6_count 1 rfl) (by rw [c13]; decide) (by rw [c13]; decide) (by rw [c13]; rfl) (by decide) ?_
              refine r_aload_n X (x_dr DX6_count 22 rfl) 0 rfl rfl ?_
              refine cl6_chamberAsTold X (k6_chamberAsTold h) rfl ml_6_155 ⟨Nat.le_of_ble_eq_true rfl, Nat.le_of_ble_eq_true rfl⟩ (Nat.le_of_ble_eq_true rfl) (x_dr DX6_count 23 rfl) (fun s14 h => ?_)
              refine cl2_ayesInAll X (k2_ayesInAll rfl h) rfl ml_6_299 ⟨Nat.le_of_ble_eq_true rfl, Nat.le_of_ble_eq_true rfl⟩ (Nat.le_of_ble_eq_true rfl) (x_dr DX6_count 24 rfl) (fun v16 s15 h => ?_)
              exact r_iret X rfl (x_dr DX6_count 25 rfl) ⟨_, rfl, h⟩
            · replace h := h.2 c13
              by_cases c17 : a1 = 6
              · replace h := h.1 c17
                refine r_tabIn X (off := 99) 100 (x_dr DX6_count 1 rfl) (by rw [c17]; decide) (by rw [c17]; decide) (by rw [c17]; rfl) (by decide) ?_
                refine r_aload_n X (x_dr DX6_count 26 rfl) 0 rfl rfl ?_
                refine cl6_faultOfStone X (k6_faultOfStone h) rfl ml_6_96 ⟨Nat.le_of_ble_eq_true rfl, Nat.le_of_ble_eq_true rfl⟩ (Nat.le_of_ble_eq_true rfl) (x_dr DX6_count 27 rfl) (fun v19 s18 h => ?_)
                refine r_iconst (v := (-1)) X (x_dr DX6_count 28 rfl) (by decide) ?_
                refine r_icmp_ne X 118 (x_dr DX6_count 29 rfl) (by decide) (fun c20 => ?_) (fun c20 => ?_)
                · replace h := h.1 c20
                  refine r_iconst (v := 0) X (x_dr DX6_count 34 rfl) (by decide) ?_
                  exact r_iret X rfl (x_dr DX6_count 35 rfl) ⟨_, rfl, h⟩
                · replace h := h.2 c20
                  refine r_aload_n X (x_dr DX6_count 30 rfl) 0 rfl rfl ?_
                  refine gf_6_14 X rfl (x_dr DX6_count 31 rfl) ?_
                  refine cl5_size X (k5_size rfl h) rfl ml_6_89 ⟨Nat.le_of_ble_eq_true rfl, Nat.le_of_ble_eq_true rfl⟩ (Nat.le_of_ble_eq_true rfl) (x_dr DX6_count 32 rfl) (fun v22 s21 h => ?_)
                  refine r_goto X 119 (x_dr DX6_count 33 rfl) (by decide) ?_
                  exact r_iret X rfl (x_dr DX6_count 35 rfl) ⟨_, rfl, h⟩
              · replace h := h.2 c17
                by_cases c23 : a1 = 7
                · replace h := h.1 c23
                  refine r_tabIn X (off := 119) 120 (x_dr DX6_count 1 rfl) (by rw [c23]; decide) (by rw [c23]; decide) (by rw [c23]; rfl) (by decide) ?_
                  refine r_aload_n X (x_dr DX6_count 36 rfl) 0 rfl rfl ?_
                  refine gf_6_44 X rfl (x_dr DX6_count 37 rfl) ?_
                  refine gf_6_232 X rfl (x_dr DX6_count 38 rfl) ?_
                  exact r_iret X rfl (x_dr DX6_count 39 rfl) ⟨_, rfl, h⟩
                · replace h := h.2 c23
                  by_cases c24 : a1 = 8
                  · replace h := h.1 c24
                    refine r_tabIn X (off := 127) 128 (x_dr DX6_count 1 rfl) (by rw [c24]; decide) (by rw [c24]; decide) (by rw [c24]; rfl) (by decide) ?_
                    refine r_aload_n X (x_dr DX6_count 40 rfl) 0 rfl rfl ?_
                    refine gf_6_302 X rfl (x_dr DX6_count 41 rfl) ?_
                    exact r_iret X rfl (x_dr DX6_count 42 rfl) ⟨_, rfl, h⟩
                  · replace h := h.2 c24
                    refine r_tabOut X 133 (x_dr DX6_count 1 rfl) (x_tab0_8 c1 c2 c3 c6 c9 c13 c17 c23 c24) (by decide) ?_
                    refine r_bipush (v := (-2)) X (x_dr DX6_count 43 rfl) (by decide) ?_
                    exact r_iret X rfl (x_dr DX6_count 44 rfl) ⟨_, rfl, h⟩
set_option maxRecDepth 10000 in
theorem w6_digestOfPlaces_L5 {ad : xAd} {E : xE} (X : FX ad E cX6_digestOfPlaces 7 RX6 (some .long) 5 114)   {K : Int64 → xSt → Prop} {Q : Int64 → xSt → Prop} : ∀ (n : Nat) (a3 : Int64) (a5 : Int32) (σ : xSt), d6_digestOfPlaces_L5 K Q n a3 a5 σ → (∀ (a3 : Int64) (s : xSt), K a3 s → KK ad E (qL Q) 132 ([(3, .long a3)]) [] s) → KK ad E (qL Q) 5 ([(0, .ref (ad 0 0 0)), (3, .long a3), (5, .int a5)]) [] σ := by
  intro n
  induction n with
  | zero => intro a3 a5 σ h kk; exact h.elim
  | succ n ih =>
    intro a3 a5 σ h kk
    rw [d6_digestOfPlaces_L5] at h
    refine r_iload X (x_dr DX6_digestOfPlaces 4 rfl) 2 rfl ?_
    refine r_bipush (v := 12) X (x_dr DX6_digestOfPlaces 5 rfl) (by decide) ?_
    refine r_icmp_ge X 132 (x_dr DX6_digestOfPlaces 6 rfl) (by decide) (fun c1 => ?_) (fun c1 => ?_)
    · replace h := h.1 c1
      refine r_norm X [1] ([(3, .long a3)]) rfl ?_
      exact kk _ _ h
    · replace h := h.2 c1
      refine r_ldc2 X mkl_6_307 (x_dr DX6_digestOfPlaces 7 rfl) ?_
      refine r_lload_n X (x_dr DX6_digestOfPlaces 8 rfl) 1 rfl rfl ?_
      refine r_lmul X (x_dr DX6_digestOfPlaces 9 rfl) ?_
      refine r_aload_n X (x_dr DX6_digestOfPlaces 10 rfl) 0 rfl rfl ?_
      refine r_iload X (x_dr DX6_digestOfPlaces 11 rfl) 2 rfl ?_
      refine cl6_stone X (k6_stone h) rfl ml_6_383 ⟨Nat.le_of_ble_eq_true rfl, Nat.le_of_ble_eq_true rfl⟩ (Nat.le_of_ble_eq_true rfl) (x_dr DX6_digestOfPlaces 12 rfl) (fun v3 s2 h => ?_)
      refine r_i2l X (x_dr DX6_digestOfPlaces 13 rfl) ?_
      refine r_ladd X (x_dr DX6_digestOfPlaces 14 rfl) ?_
      refine r_nmJ (fun v4 ev4 => ?_)
      replace h := h v4 ev4
      refine r_lstore_n X ([(3, .long v4), (0, .ref (ad 0 0 0)), (5, .int a5)]) (x_dr DX6_digestOfPlaces 15 rfl) rfl (by decide) rfl ?_
      refine r_ldc2 X mkl_6_307 (x_dr DX6_digestOfPlaces 16 rfl) ?_
      refine r_lload_n X (x_dr DX6_digestOfPlaces 17 rfl) 0 rfl rfl ?_
      refine r_lmul X (x_dr DX6_digestOfPlaces 18 rfl) ?_
      refine r_aload_n X (x_dr DX6_digestOfPlaces 19 rfl) 1 rfl rfl ?_
      refine r_bipush (v := 6) X (x_dr DX6_digestOfPlaces 20 rfl) (by decide) ?_
      refine r_iload X (x_dr DX6_digestOfPlaces 21 rfl) 2 rfl ?_
      refine r_iconst (v := 0) X (x_dr DX6_digestOfPlaces 22 rfl) (by decide) ?_
      refine cl6_damp X (k6_damp h) rfl ml_6_386 ⟨Nat.le_of_ble_eq_true rfl, Nat.le_of_ble_eq_true rfl⟩ (Nat.le_of_ble_eq_true rfl) (x_dr DX6_digestOfPlaces 23 rfl) (fun v6 s5 h => ?_)
      refine r_i2l X (x_dr DX6_digestOfPlaces 24 rfl) ?_
      refine r_ladd X (x_dr DX6_digestOfPlaces 25 rfl) ?_
      refine r_nmJ (fun v7 ev7 => ?_)
      replace h := h v7 ev7
      refine r_lstore_n X ([(3, .long v7), (0, .ref (ad 0 0 0)), (5, .int a5)]) (x_dr DX6_digestOfPlaces 26 rfl) rfl (by decide) rfl ?_
      refine r_ldc2 X mkl_6_307 (x_dr DX6_digestOfPlaces 27 rfl) ?_
      refine r_lload_n X (x_dr DX6_digestOfPlaces 28 rfl) 0 rfl rfl ?_
      refine r_lmul X (x_dr DX6_digestOfPlaces 29 rfl) ?_
      refine r_aload_n X (x_dr DX6_digestOfPlaces 30 rfl) 1 rfl rfl ?_
      refine r_bipush (v := 6) X (x_dr DX6_digestOfPlaces 31 rfl) (by decide) ?_
      refine r_iload X (x_dr DX6_digestOfPlaces 32 rfl) 2 rfl ?_
      refine r_iconst (v := 1) X (x_dr DX6_digestOfPlaces 33 rfl) (by decide) ?_
      refine cl6_damp X (k6_damp h) rfl ml_6_386 ⟨Nat.le_of_ble_eq_true rfl, Nat.le_of_ble_eq_true rfl⟩ (Nat.le_of_ble_eq_true rfl) (x_dr DX6_digestOfPlaces 34 rfl) (fun v9 s8 h => ?_)
      refine r_i2l X (x_dr DX6_digestOfPlaces 35 rfl) ?_
      refine r_ladd X (x_dr DX6_digestOfPlaces 36 rfl) ?_
      refine r_nmJ (fun v10 ev10 => ?_)
      replace h := h v10 ev10
      refine r_lstore_n X ([(3, .long v10), (0, .ref (ad 0 0 0)), (5, .int a5)]) (x_dr DX6_digestOfPlaces 37 rfl) rfl (by decide) rfl ?_
      refine r_ldc2 X mkl_6_307 (x_dr DX6_digestOfPlaces 38 rfl) ?_
      refine r_lload_n X (x_dr DX6_digestOfPlaces 39 rfl) 0 rfl rfl ?_
      refine r_lmul X (x_dr DX6_digestOfPlaces 40 rfl) ?_
      refine r_aload_n X (x_dr DX6_digestOfPlaces 41 rfl) 1 rfl rfl ?_
      refine r_bipush (v := 19) X (x_dr DX6_digestOfPlaces 42 rfl) (by decide) ?_
      refine r_iload X (x_dr DX6_digestOfPlaces 43 rfl) 2 rfl ?_
      refine r_iconst (v := 0) X (x_dr DX6_digestOfPlaces 44 rfl) (by decide) ?_
      refine cl6_damp X (k6_damp h) rfl ml_6_386 ⟨Nat.le_of_ble_eq_true rfl, Nat.le_of_ble_eq_true rfl⟩ (Nat.le_of_ble_eq_true rfl) (x_dr DX6_digestOfPlaces 45 rfl) (fun v12 s11 h => ?_)
      refine r_i2l X (x_dr DX6_digestOfPlaces 46 rfl) ?_
      refine r_ladd X (x_dr DX6_digestOfPlaces 47 rfl) ?_
      refine r_nmJ (fun v13 ev13 => ?_)
      replace h := h v13 ev13
      refine r_lstore_n X ([(3, .long v13), (0, .ref (ad 0 0 0)), (5, .int a5)]) (x_dr DX6_digestOfPlaces 48 rfl) rfl (by decide) rfl ?_
      refine r_ldc2 X mkl_6_307 (x_dr DX6_digestOfPlaces 49 rfl) ?_
      refine r_lload_n X (x_dr DX6_digestOfPlaces 50 rfl) 0 rfl rfl ?_
      refine r_lmul X (x_dr DX6_digestOfPlaces 51 rfl) ?_
      refine r_aload_n X (x_dr DX6_digestOfPlaces 52 rfl) 1 rfl rfl ?_
      refine r_bipush (v := 19) X (x_dr DX6_digestOfPlaces 53 rfl) (by decide) ?_
      refine r_iload X (x_dr DX6_digestOfPlaces 54 rfl) 2 rfl ?_
      refine r_iconst (v := 1) X (x_dr DX6_digestOfPlaces 55 rfl) (by decide) ?_
      refine cl6_damp X (k6_damp h) rfl ml_6_386 ⟨Nat.le_of_ble_eq_true rfl, Nat.le_of_ble_eq_true rfl⟩ (Nat.le_of_ble_eq_true rfl) (x_dr DX6_digestOfPlaces 56 rfl) (fun v15 s14 h => ?_)
      refine r_i2l X (x_dr DX6_digestOfPlaces 57 rfl) ?_
      refine r_ladd X (x_dr DX6_digestOfPlaces 58 rfl) ?_
      refine r_nmJ (fun v16 ev16 => ?_)
      replace h := h v16 ev16
      refine r_lstore_n X ([(3, .long v16), (0, .ref (ad 0 0 0)), (5, .int a5)]) (x_dr DX6_digestOfPlaces 59 rfl) rfl (by decide) rfl ?_
      refine r_aload_n X (x_dr DX6_digestOfPlaces 60 rfl) 1 rfl rfl ?_
      refine r_iload X (x_dr DX6_digestOfPlaces 61 rfl) 2 rfl ?_
      refine cl6_firstsThatFit X (k6_firstsThatFit h) rfl ml_6_251 ⟨Nat.le_of_ble_eq_true rfl, Nat.le_of_ble_eq_true rfl⟩ (Nat.le_of_ble_eq_true rfl) (x_dr DX6_digestOfPlaces 62 rfl) (fun v18 s17 h => ?_)
      refine r_istore X ([(6, .int v18), (3, .long v16), (0, .ref (ad 0 0 0)), (5, .int a5)]) (x_dr DX6_digestOfPlaces 63 rfl) (by decide) rfl ?_
      refine r_ldc2 X mkl_6_307 (x_dr DX6_digestOfPlaces 64 rfl) ?_
      refine r_lload_n X (x_dr DX6_digestOfPlaces 65 rfl) 1 rfl rfl ?_
      refine r_lmul X (x_dr DX6_digestOfPlaces 66 rfl) ?_
      refine r_iload X (x_dr DX6_digestOfPlaces 67 rfl) 0 rfl ?_
      refine r_i2l X (x_dr DX6_digestOfPlaces 68 rfl) ?_
      refine r_ladd X (x_dr DX6_digestOfPlaces 69 rfl) ?_
      refine r_nmJ (fun v19 ev19 => ?_)
      replace h := h v19 ev19
      refine r_lstore_n X ([(3, .long v19), (6, .int v18), (0, .ref (ad 0 0 0)), (5, .int a5)]) (x_dr DX6_digestOfPlaces 70 rfl) rfl (by decide) rfl ?_
      refine r_ldc2 X mkl_6_307 (x_dr DX6_digestOfPlaces 71 rfl) ?_
      refine r_lload_n X (x_dr DX6_digestOfPlaces 72 rfl) 0 rfl rfl ?_
      refine r_lmul X (x_dr DX6_digestOfPlaces 73 rfl) ?_
      refine r_aload_n X (x_dr DX6_digestOfPlaces 74 rfl) 2 rfl rfl ?_
      refine r_iload X (x_dr DX6_digestOfPlaces 75 rfl) 1 rfl ?_
      refine cl6_hourToAsk X (k6_hourToAsk h) rfl ml_6_254 ⟨Nat.le_of_ble_eq_true rfl, Nat.le_of_ble_eq_true rfl⟩ (Nat.le_of_ble_eq_true rfl) (x_dr DX6_digestOfPlaces 76 rfl) (fun v21 s20 h => ?_)
      refine r_i2l X (x_dr DX6_digestOfPlaces 77 rfl) ?_
      refine r_ladd X (x_dr DX6_digestOfPlaces 78 rfl) ?_
      refine r_nmJ (fun v22 ev22 => ?_)
      replace h := h v22 ev22
      refine r_lstore_n X ([(3, .long v22), (6, .int v18), (0, .ref (ad 0 0 0)), (5, .int a5)]) (x_dr DX6_digestOfPlaces 79 rfl) rfl (by decide) rfl ?_
      obtain ⟨v23, ev23⟩ : ∃ z : Int32, z = a5 + 1 := ⟨_, rfl⟩
      replace h := h v23 ev23
      refine r_iinc (v := v23) X ([(5, .int v23), (3, .long v22), (6, .int v18), (0, .ref (ad 0 0 0))]) 3 (x_dr DX6_digestOfPlaces 80 rfl) rfl (by rw [ev23]; rfl) (by decide) rfl ?_
      refine r_goto X 5 (x_dr DX6_digestOfPlaces 81 rfl) (by decide) ?_
      refine r_norm X [3, 1, 0] ([(0, .ref (ad 0 0 0)), (3, .long v22), (5, .int v23)]) rfl ?_
      exact ih _ _ _ h kk
set_option maxRecDepth 10000 in
theorem k6_digestOfPlaces {ad : xAd} {G : xG} {l : Launch} {a1 : Int64} {σ : xSt} {Q : Int64 → xSt → Prop}  (h : d6_digestOfPlaces a1 σ Q) : MC ad G l yX6_digestOfPlaces cX6_digestOfPlaces 7 (some .long) 5 114 [.ref (ad 0 0 0), .long a1] σ (qL Q) := by
  unfold d6_digestOfPlaces at h
  refine x_MC [(0, .ref (ad 0 0 0)), (1, .long a1)] (by decide +kernel) rfl (Nat.le_of_ble_eq_true rfl) ?_
  intro E hG hl X
  replace X : FX ad E cX6_digestOfPlaces 7 RX6 (some .long) 5 114 := X
  refine r_lload_n X (x_dr DX6_digestOfPlaces 0 rfl) 1 rfl rfl ?_
  refine r_lstore_n X ([(3, .long a1), (0, .ref (ad 0 0 0)), (1, .long a1)]) (x_dr DX6_digestOfPlaces 1 rfl) rfl (by decide) rfl ?_
  refine r_iconst (v := 0) X (x_dr DX6_digestOfPlaces 2 rfl) (by decide) ?_
  refine r_istore X ([(5, .int 0), (3, .long a1), (0, .ref (ad 0 0 0)), (1, .long a1)]) (x_dr DX6_digestOfPlaces 3 rfl) (by decide) rfl ?_
  refine r_norm X [2, 1, 0] ([(0, .ref (ad 0 0 0)), (3, .long a1), (5, .int 0)]) rfl ?_
  refine w6_digestOfPlaces_L5 X  _ _ _ _ h (fun v25 s24 h => ?_)
  refine r_lload_n X (x_dr DX6_digestOfPlaces 82 rfl) 0 rfl rfl ?_
  exact r_lret X rfl (x_dr DX6_digestOfPlaces 83 rfl) ⟨_, rfl, h⟩
set_option maxRecDepth 10000 in
theorem w6_digestOfMembers_L26 {ad : xAd} {E : xE} (X : FX ad E cX6_digestOfMembers 9 RX6 (some .long) 4 93)   {a6 : Int32} {K : Int64 → xSt → Prop} {Q : Int64 → xSt → Prop} : ∀ (n : Nat) (a3 : Int64) (a7 : Int32) (σ : xSt), d6_digestOfMembers_L26 a6 K Q n a3 a7 σ → (∀ (a3 : Int64) (s : xSt), K a3 s → KK ad E (qL Q) 54 ([(0, .ref (ad 0 0 0)), (3, .long a3), (5, .ref (ad 5 0 0)), (6, .int a6)]) [] s) → KK ad E (qL Q) 26 ([(0, .ref (ad 0 0 0)), (3, .long a3), (5, .ref (ad 5 0 0)), (6, .int a6), (7, .int a7)]) [] σ := by
  intro n
  induction n with
  | zero => intro a3 a7 σ h kk; exact h.elim
  | succ n ih =>
    intro a3 a7 σ h kk
    rw [d6_digestOfMembers_L26] at h
    refine r_iload X (x_dr DX6_digestOfMembers 14 rfl) 4 rfl ?_
    refine r_iconst (v := 2) X (x_dr DX6_digestOfMembers 15 rfl) (by decide) ?_
    refine r_icmp_gt X 54 (x_dr DX6_digestOfMembers 16 rfl) (by decide) (fun c3 => ?_) (fun c3 => ?_)
    · replace h := h.1 c3
      refine r_norm X [0, 1, 2, 3] ([(0, .ref (ad 0 0 0)), (3, .long a3), (5, .ref (ad 5 0 0)), (6, .int a6)]) rfl ?_
      exact kk _ _ h
    · replace h := h.2 c3
      refine r_ldc2 X mkl_6_307 (x_dr DX6_digestOfMembers 17 rfl) ?_
      refine r_lload_n X (x_dr DX6_digestOfMembers 18 rfl) 1 rfl rfl ?_
      refine r_lmul X (x_dr DX6_digestOfMembers 19 rfl) ?_
      refine r_aload_n X (x_dr DX6_digestOfMembers 20 rfl) 0 rfl rfl ?_
      refine r_iload X (x_dr DX6_digestOfMembers 21 rfl) 3 rfl ?_
      refine r_iload X (x_dr DX6_digestOfMembers 22 rfl) 4 rfl ?_
      refine cl6_member X (k6_member h) rfl ml_6_389 ⟨Nat.le_of_ble_eq_true rfl, Nat.le_of_ble_eq_true rfl⟩ (Nat.le_of_ble_eq_true rfl) (x_dr DX6_digestOfMembers 23 rfl) (fun v5 s4 h => ?_)
      refine r_i2l X (x_dr DX6_digestOfMembers 24 rfl) ?_
      refine r_ladd X (x_dr DX6_digestOfMembers 25 rfl) ?_
      refine r_nmJ (fun v6 ev6 => ?_)
      replace h := h v6 ev6
      refine r_lstore_n X ([(3, .long v6), (0, .ref (ad 0 0 0)), (5, .ref (ad 5 0 0)), (6, .int a6), (7, .int a7)]) (x_dr DX6_digestOfMembers 26 rfl) rfl (by decide) rfl ?_
      obtain ⟨v7, ev7⟩ : ∃ z : Int32, z = a7 + 1 := ⟨_, rfl⟩
      replace h := h v7 ev7
      refine r_iinc (v := v7) X ([(7, .int v7), (3, .long v6), (0, .ref (ad 0 0 0)), (5, .ref (ad 5 0 0)), (6, .int a6)]) 4 (x_dr DX6_digestOfMembers 27 rfl) rfl (by rw [ev7]; rfl) (by decide) rfl ?_
      refine r_goto X 26 (x_dr DX6_digestOfMembers 28 rfl) (by decide) ?_
      refine r_norm X [2, 1, 3, 4, 0] ([(0, .ref (ad 0 0 0)), (3, .long v6), (5, .ref (ad 5 0 0)), (6, .int a6), (7, .int v7)]) rfl ?_
      exact ih _ _ _ h kk
set_option maxRecDepth 10000 in
theorem w6_digestOfMembers_L69 {ad : xAd} {E : xE} (X : FX ad E cX6_digestOfMembers 9 RX6 (some .long) 4 93)   {a6 : Int32} {a7 : Int32} {K : Int64 → xSt → Prop} {Q : Int64 → xSt → Prop} : ∀ (n : Nat) (a3 : Int64) (a8 : Int32) (σ : xSt), d6_digestOfMembers_L69 a6 a7 K Q n a3 a8 σ → (∀ (a3 : Int64) (s : xSt), K a3 s → KK ad E (qL Q) 104 ([(0, .ref (ad 0 0 0)), (3, .long a3), (5, .ref (ad 5 0 0)), (6, .int a6), (7, .int a7)]) [] s) → KK ad E (qL Q) 69 ([(0, .ref (ad 0 0 0)), (3, .long a3), (5, .ref (ad 5 0 0)), (6, .int a6), (7, .int a7), (8, .int a8)]) [] σ := by
  intro n
  induction n with
  | zero => intro a3 a8 σ h kk; exact h.elim
  | succ n ih =>
    intro a3 a8 σ h kk
    rw [d6_digestOfMembers_L69] at h
    refine r_iload X (x_dr DX6_digestOfMembers 37 rfl) 5 rfl ?_
    refine r_iconst (v := 3) X (x_dr DX6_digestOfMembers 38 rfl) (by decide) ?_
    refine r_icmp_gt X 104 (x_dr DX6_digestOfMembers 39 rfl) (by decide) (fun c12 => ?_) (fun c12 => ?_)
    · replace h := h.1 c12
      refine r_norm X [0, 1, 2, 3, 4] ([(0, .ref (ad 0 0 0)), (3, .long a3), (5, .ref (ad 5 0 0)), (6, .int a6), (7, .int a7)]) rfl ?_
      exact kk _ _ h
    · replace h := h.2 c12
      refine r_ldc2 X mkl_6_307 (x_dr DX6_digestOfMembers 40 rfl) ?_
      refine r_lload_n X (x_dr DX6_digestOfMembers 41 rfl) 1 rfl rfl ?_
      refine r_lmul X (x_dr DX6_digestOfMembers 42 rfl) ?_
      refine r_aload X (x_dr DX6_digestOfMembers 43 rfl) 2 rfl ?_
      refine r_gets X mf_6_392 (x_dr DX6_digestOfMembers 44 rfl) (fun t13 ht13 => ?_)
      refine r_iload X (x_dr DX6_digestOfMembers 45 rfl) 4 rfl ?_
      obtain ⟨b14, h⟩ := h
      refine r_sald X ht13 b14 (x_dr DX6_digestOfMembers 46 rfl) ?_
      refine r_iload X (x_dr DX6_digestOfMembers 47 rfl) 3 rfl ?_
      refine r_iload X (x_dr DX6_digestOfMembers 48 rfl) 5 rfl ?_
      refine cl2_ofMember X (k2_ofMember rfl h) rfl ml_6_166 ⟨Nat.le_of_ble_eq_true rfl, Nat.le_of_ble_eq_true rfl⟩ (Nat.le_of_ble_eq_true rfl) (x_dr DX6_digestOfMembers 49 rfl) (fun v16 s15 h => ?_)
      refine r_i2l X (x_dr DX6_digestOfMembers 50 rfl) ?_
      refine r_ladd X (x_dr DX6_digestOfMembers 51 rfl) ?_
      refine r_nmJ (fun v17 ev17 => ?_)
      replace h := h v17 ev17
      refine r_lstore_n X ([(3, .long v17), (0, .ref (ad 0 0 0)), (5, .ref (ad 5 0 0)), (6, .int a6), (7, .int a7), (8, .int a8)]) (x_dr DX6_digestOfMembers 52 rfl) rfl (by decide) rfl ?_
      obtain ⟨v18, ev18⟩ : ∃ z : Int32, z = a8 + 1 := ⟨_, rfl⟩
      replace h := h v18 ev18
      refine r_iinc (v := v18) X ([(8, .int v18), (3, .long v17), (0, .ref (ad 0 0 0)), (5, .ref (ad 5 0 0)), (6, .int a6), (7, .int a7)]) 5 (x_dr DX6_digestOfMembers 53 rfl) rfl (by rw [ev18]; rfl) (by decide) rfl ?_
      refine r_goto X 69 (x_dr DX6_digestOfMembers 54 rfl) (by decide) ?_
      refine r_norm X [2, 1, 3, 4, 5, 0] ([(0, .ref (ad 0 0 0)), (3, .long v17), (5, .ref (ad 5 0 0)), (6, .int a6), (7, .int a7), (8, .int v18)]) rfl ?_
      exact ih _ _ _ h kk
set_option maxRecDepth 10000 in
theorem w6_digestOfMembers_L57 {ad : xAd} {E : xE} (X : FX ad E cX6_digestOfMembers 9 RX6 (some .long) 4 93)   {a6 : Int32} {K : Int64 → xSt → Prop} {Q : Int64 → xSt → Prop} : ∀ (n : Nat) (a3 : Int64) (a7 : Int32) (σ : xSt), d6_digestOfMembers_L57 a6 K Q n a3 a7 σ → (∀ (a3 : Int64) (s : xSt), K a3 s → KK ad E (qL Q) 110 ([(0, .ref (ad 0 0 0)), (3, .long a3), (5, .ref (ad 5 0 0)), (6, .int a6)]) [] s) → KK ad E (qL Q) 57 ([(0, .ref (ad 0 0 0)), (3, .long a3), (5, .ref (ad 5 0 0)), (6, .int a6), (7, .int a7)]) [] σ := by
  intro n
  induction n with
  | zero => intro a3 a7 σ h kk; exact h.elim
  | succ n ih =>
    intro a3 a7 σ h kk
    rw [d6_digestOfMembers_L57] at h
    refine r_iload X (x_dr DX6_digestOfMembers 31 rfl) 4 rfl ?_
    refine r_gets X mf_6_392 (x_dr DX6_digestOfMembers 32 rfl) (fun t10 ht10 => ?_)
    refine r_slen X ht10 (x_dr DX6_digestOfMembers 33 rfl) ?_
    refine r_icmp_ge X 110 (x_dr DX6_digestOfMembers 34 rfl) (by decide) (fun c11 => ?_) (fun c11 => ?_)
    · replace h := h.1 c11
      refine r_norm X [0, 1, 2, 3] ([(0, .ref (ad 0 0 0)), (3, .long a3), (5, .ref (ad 5 0 0)), (6, .int a6)]) rfl ?_
      exact kk _ _ h
    · replace h := h.2 c11
      refine r_iconst (v := 0) X (x_dr DX6_digestOfMembers 35 rfl) (by decide) ?_
      refine r_istore X ([(8, .int 0), (0, .ref (ad 0 0 0)), (3, .long a3), (5, .ref (ad 5 0 0)), (6, .int a6), (7, .int a7)]) (x_dr DX6_digestOfMembers 36 rfl) (by decide) rfl ?_
      refine r_norm X [1, 2, 3, 4, 5, 0] ([(0, .ref (ad 0 0 0)), (3, .long a3), (5, .ref (ad 5 0 0)), (6, .int a6), (7, .int a7), (8, .int 0)]) rfl ?_
      refine w6_digestOfMembers_L69 X  _ _ _ _ h (fun v20 s19 h => ?_)
      obtain ⟨v21, ev21⟩ : ∃ z : Int32, z = a7 + 1 := ⟨_, rfl⟩
      replace h := h v21 ev21
      refine r_iinc (v := v21) X ([(7, .int v21), (0, .ref (ad 0 0 0)), (3, .long v20), (5, .ref (ad 5 0 0)), (6, .int a6)]) 4 (x_dr DX6_digestOfMembers 55 rfl) rfl (by rw [ev21]; rfl) (by decide) rfl ?_
      refine r_goto X 57 (x_dr DX6_digestOfMembers 56 rfl) (by decide) ?_
      refine r_norm X [1, 2, 3, 4, 0] ([(0, .ref (ad 0 0 0)), (3, .long v20), (5, .ref (ad 5 0 0)), (6, .int a6), (7, .int v21)]) rfl ?_
      exact ih _ _ _ h kk
set_option maxRecDepth 10000 in
theorem w6_digestOfMembers_L11 {ad : xAd} {E : xE} (X : FX ad E cX6_digestOfMembers 9 RX6 (some .long) 4 93)   {K : Int64 → xSt → Prop} {Q : Int64 → xSt → Prop} : ∀ (n : Nat) (a3 : Int64) (a6 : Int32) (σ : xSt), d6_digestOfMembers_L11 K Q n a3 a6 σ → (∀ (a3 : Int64) (s : xSt), K a3 s → KK ad E (qL Q) 166 ([(3, .long a3)]) [] s) → KK ad E (qL Q) 11 ([(0, .ref (ad 0 0 0)), (3, .long a3), (5, .ref (ad 5 0 0)), (6, .int a6)]) [] σ := by
  intro n
  induction n with
  | zero => intro a3 a6 σ h kk; exact h.elim
  | succ n ih =>
    intro a3 a6 σ h kk
    rw [d6_digestOfMembers_L11] at h
    refine r_iload X (x_dr DX6_digestOfMembers 7 rfl) 3 rfl ?_
    refine r_aload_n X (x_dr DX6_digestOfMembers 8 rfl) 0 rfl rfl ?_
    refine gf_6_24 X rfl (x_dr DX6_digestOfMembers 9 rfl) ?_
    refine gf_6_184 X rfl (x_dr DX6_digestOfMembers 10 rfl) ?_
    refine r_icmp_ge X 166 (x_dr DX6_digestOfMembers 11 rfl) (by decide) (fun c2 => ?_) (fun c2 => ?_)
    · replace h := h.1 c2
      refine r_norm X [1] ([(3, .long a3)]) rfl ?_
      exact kk _ _ h
    · replace h := h.2 c2
      refine r_iconst (v := 0) X (x_dr DX6_digestOfMembers 12 rfl) (by decide) ?_
      refine r_istore X ([(7, .int 0), (0, .ref (ad 0 0 0)), (3, .long a3), (5, .ref (ad 5 0 0)), (6, .int a6)]) (x_dr DX6_digestOfMembers 13 rfl) (by decide) rfl ?_
      refine r_norm X [1, 2, 3, 4, 0] ([(0, .ref (ad 0 0 0)), (3, .long a3), (5, .ref (ad 5 0 0)), (6, .int a6), (7, .int 0)]) rfl ?_
      refine w6_digestOfMembers_L26 X  _ _ _ _ h (fun v9 s8 h => ?_)
      refine r_iconst (v := 0) X (x_dr DX6_digestOfMembers 29 rfl) (by decide) ?_
      refine r_istore X ([(7, .int 0), (0, .ref (ad 0 0 0)), (3, .long v9), (5, .ref (ad 5 0 0)), (6, .int a6)]) (x_dr DX6_digestOfMembers 30 rfl) (by decide) rfl ?_
      refine r_norm X [1, 2, 3, 4, 0] ([(0, .ref (ad 0 0 0)), (3, .long v9), (5, .ref (ad 5 0 0)), (6, .int a6), (7, .int 0)]) rfl ?_
      refine w6_digestOfMembers_L57 X  _ _ _ _ h (fun v23 s22 h => ?_)
      refine r_aload_n X (x_dr DX6_digestOfMembers 57 rfl) 0 rfl rfl ?_
      refine r_iload X (x_dr DX6_digestOfMembers 58 rfl) 3 rfl ?_
      refine cl6_findSeat X (k6_findSeat h) rfl ml_6_207 ⟨Nat.le_of_ble_eq_true rfl, Nat.le_of_ble_eq_true rfl⟩ (Nat.le_of_ble_eq_true rfl) (x_dr DX6_digestOfMembers 59 rfl) (fun s24 h => ?_)
      refine r_ldc2 X mkl_6_307 (x_dr DX6_digestOfMembers 60 rfl) ?_
      refine r_lload_n X (x_dr DX6_digestOfMembers 61 rfl) 1 rfl rfl ?_
      refine r_lmul X (x_dr DX6_digestOfMembers 62 rfl) ?_
      refine r_aload_n X (x_dr DX6_digestOfMembers 63 rfl) 0 rfl rfl ?_
      refine gf_6_51 X rfl (x_dr DX6_digestOfMembers 64 rfl) ?_
      refine gf_6_194 X rfl (x_dr DX6_digestOfMembers 65 rfl) ?_
      refine r_i2l X (x_dr DX6_digestOfMembers 66 rfl) ?_
      refine r_ladd X (x_dr DX6_digestOfMembers 67 rfl) ?_
      refine r_nmJ (fun v25 ev25 => ?_)
      replace h := h v25 ev25
      refine r_lstore_n X ([(3, .long v25), (0, .ref (ad 0 0 0)), (5, .ref (ad 5 0 0)), (6, .int a6)]) (x_dr DX6_digestOfMembers 68 rfl) rfl (by decide) rfl ?_
      refine r_ldc2 X mkl_6_307 (x_dr DX6_digestOfMembers 69 rfl) ?_
      refine r_lload_n X (x_dr DX6_digestOfMembers 70 rfl) 0 rfl rfl ?_
      refine r_lmul X (x_dr DX6_digestOfMembers 71 rfl) ?_
      refine r_aload_n X (x_dr DX6_digestOfMembers 72 rfl) 1 rfl rfl ?_
      refine gf_6_51 X rfl (x_dr DX6_digestOfMembers 73 rfl) ?_
      refine gf_6_191 X rfl (x_dr DX6_digestOfMembers 74 rfl) ?_
      refine r_i2l X (x_dr DX6_digestOfMembers 75 rfl) ?_
      refine r_ladd X (x_dr DX6_digestOfMembers 76 rfl) ?_
      refine r_nmJ (fun v26 ev26 => ?_)
      replace h := h v26 ev26
      refine r_lstore_n X ([(3, .long v26), (0, .ref (ad 0 0 0)), (5, .ref (ad 5 0 0)), (6, .int a6)]) (x_dr DX6_digestOfMembers 77 rfl) rfl (by decide) rfl ?_
      refine r_ldc2 X mkl_6_307 (x_dr DX6_digestOfMembers 78 rfl) ?_
      refine r_lload_n X (x_dr DX6_digestOfMembers 79 rfl) 0 rfl rfl ?_
      refine r_lmul X (x_dr DX6_digestOfMembers 80 rfl) ?_
      refine r_aload_n X (x_dr DX6_digestOfMembers 81 rfl) 1 rfl rfl ?_
      refine r_iload X (x_dr DX6_digestOfMembers 82 rfl) 3 rfl ?_
      refine cl6_sortsThatFit X (k6_sortsThatFit h) rfl ml_6_248 ⟨Nat.le_of_ble_eq_true rfl, Nat.le_of_ble_eq_true rfl⟩ (Nat.le_of_ble_eq_true rfl) (x_dr DX6_digestOfMembers 83 rfl) (fun v28 s27 h => ?_)
      refine r_i2l X (x_dr DX6_digestOfMembers 84 rfl) ?_
      refine r_ladd X (x_dr DX6_digestOfMembers 85 rfl) ?_
      refine r_nmJ (fun v29 ev29 => ?_)
      replace h := h v29 ev29
      refine r_lstore_n X ([(3, .long v29), (0, .ref (ad 0 0 0)), (5, .ref (ad 5 0 0)), (6, .int a6)]) (x_dr DX6_digestOfMembers 86 rfl) rfl (by decide) rfl ?_
      obtain ⟨v30, ev30⟩ : ∃ z : Int32, z = a6 + 1 := ⟨_, rfl⟩
      replace h := h v30 ev30
      refine r_iinc (v := v30) X ([(6, .int v30), (3, .long v29), (0, .ref (ad 0 0 0)), (5, .ref (ad 5 0 0))]) 3 (x_dr DX6_digestOfMembers 87 rfl) rfl (by rw [ev30]; rfl) (by decide) rfl ?_
      refine r_goto X 11 (x_dr DX6_digestOfMembers 88 rfl) (by decide) ?_
      refine r_norm X [2, 1, 3, 0] ([(0, .ref (ad 0 0 0)), (3, .long v29), (5, .ref (ad 5 0 0)), (6, .int v30)]) rfl ?_
      exact ih _ _ _ h kk
set_option maxRecDepth 10000 in
theorem k6_digestOfMembers {ad : xAd} {G : xG} {l : Launch} {a1 : Int64} {σ : xSt} {Q : Int64 → xSt → Prop}  (h : d6_digestOfMembers a1 σ Q) : MC ad G l yX6_digestOfMembers cX6_digestOfMembers 9 (some .long) 4 93 [.ref (ad 0 0 0), .long a1] σ (qL Q) := by
  unfold d6_digestOfMembers at h
  refine x_MC [(0, .ref (ad 0 0 0)), (1, .long a1)] (by decide +kernel) rfl (Nat.le_of_ble_eq_true rfl) ?_
  intro E hG hl X
  replace X : FX ad E cX6_digestOfMembers 9 RX6 (some .long) 4 93 := X
  refine r_lload_n X (x_dr DX6_digestOfMembers 0 rfl) 1 rfl rfl ?_
  refine r_lstore_n X ([(3, .long a1), (0, .ref (ad 0 0 0)), (1, .long a1)]) (x_dr DX6_digestOfMembers 1 rfl) rfl (by decide) rfl ?_
  refine r_aload_n X (x_dr DX6_digestOfMembers 2 rfl) 1 rfl rfl ?_
  refine cl6_chamberAsTold X (k6_chamberAsTold h) rfl ml_6_155 ⟨Nat.le_of_ble_eq_true rfl, Nat.le_of_ble_eq_true rfl⟩ (Nat.le_of_ble_eq_true rfl) (x_dr DX6_digestOfMembers 3 rfl) (fun s1 h => ?_)
  refine r_astore X ([(5, .ref (ad 5 0 0)), (3, .long a1), (0, .ref (ad 0 0 0)), (1, .long a1)]) (x_dr DX6_digestOfMembers 4 rfl) (by decide) rfl ?_
  refine r_iconst (v := 0) X (x_dr DX6_digestOfMembers 5 rfl) (by decide) ?_
  refine r_istore X ([(6, .int 0), (5, .ref (ad 5 0 0)), (3, .long a1), (0, .ref (ad 0 0 0)), (1, .long a1)]) (x_dr DX6_digestOfMembers 6 rfl) (by decide) rfl ?_
  refine r_norm X [3, 2, 1, 0] ([(0, .ref (ad 0 0 0)), (3, .long a1), (5, .ref (ad 5 0 0)), (6, .int 0)]) rfl ?_
  refine w6_digestOfMembers_L11 X  _ _ _ _ h (fun v32 s31 h => ?_)
  refine r_lload_n X (x_dr DX6_digestOfMembers 89 rfl) 0 rfl rfl ?_
  exact r_lret X rfl (x_dr DX6_digestOfMembers 90 rfl) ⟨_, rfl, h⟩
set_option maxRecDepth 10000 in
theorem w6_digestOfHours_L15 {ad : xAd} {E : xE} (X : FX ad E cX6_digestOfHours 7 RX6 (some .long) 5 113)   {a5 : Int32} {K : Int64 → xSt → Prop} {Q : Int64 → xSt → Prop} : ∀ (n : Nat) (a3 : Int64) (a6 : Int32) (σ : xSt), d6_digestOfHours_L15 a5 K Q n a3 a6 σ → (∀ (a3 : Int64) (s : xSt), K a3 s → KK ad E (qL Q) 43 ([(0, .ref (ad 0 0 0)), (3, .long a3), (5, .int a5)]) [] s) → KK ad E (qL Q) 15 ([(0, .ref (ad 0 0 0)), (3, .long a3), (5, .int a5), (6, .int a6)]) [] σ := by
  intro n
  induction n with
  | zero => intro a3 a6 σ h kk; exact h.elim
  | succ n ih =>
    intro a3 a6 σ h kk
    rw [d6_digestOfHours_L15] at h
    refine r_iload X (x_dr DX6_digestOfHours 9 rfl) 3 rfl ?_
    refine r_iconst (v := 2) X (x_dr DX6_digestOfHours 10 rfl) (by decide) ?_
    refine r_icmp_gt X 43 (x_dr DX6_digestOfHours 11 rfl) (by decide) (fun c2 => ?_) (fun c2 => ?_)
    · replace h := h.1 c2
      refine r_norm X [0, 1, 2] ([(0, .ref (ad 0 0 0)), (3, .long a3), (5, .int a5)]) rfl ?_
      exact kk _ _ h
    · replace h := h.2 c2
      refine r_ldc2 X mkl_6_307 (x_dr DX6_digestOfHours 12 rfl) ?_
      refine r_lload_n X (x_dr DX6_digestOfHours 13 rfl) 1 rfl rfl ?_
      refine r_lmul X (x_dr DX6_digestOfHours 14 rfl) ?_
      refine r_aload_n X (x_dr DX6_digestOfHours 15 rfl) 0 rfl rfl ?_
      refine r_iload X (x_dr DX6_digestOfHours 16 rfl) 2 rfl ?_
      refine r_iload X (x_dr DX6_digestOfHours 17 rfl) 3 rfl ?_
      refine cl6_house X (k6_house h) rfl ml_6_395 ⟨Nat.le_of_ble_eq_true rfl, Nat.le_of_ble_eq_true rfl⟩ (Nat.le_of_ble_eq_true rfl) (x_dr DX6_digestOfHours 18 rfl) (fun v4 s3 h => ?_)
      refine r_i2l X (x_dr DX6_digestOfHours 19 rfl) ?_
      refine r_ladd X (x_dr DX6_digestOfHours 20 rfl) ?_
      refine r_nmJ (fun v5 ev5 => ?_)
      replace h := h v5 ev5
      refine r_lstore_n X ([(3, .long v5), (0, .ref (ad 0 0 0)), (5, .int a5), (6, .int a6)]) (x_dr DX6_digestOfHours 21 rfl) rfl (by decide) rfl ?_
      obtain ⟨v6, ev6⟩ : ∃ z : Int32, z = a6 + 1 := ⟨_, rfl⟩
      replace h := h v6 ev6
      refine r_iinc (v := v6) X ([(6, .int v6), (3, .long v5), (0, .ref (ad 0 0 0)), (5, .int a5)]) 3 (x_dr DX6_digestOfHours 22 rfl) rfl (by rw [ev6]; rfl) (by decide) rfl ?_
      refine r_goto X 15 (x_dr DX6_digestOfHours 23 rfl) (by decide) ?_
      refine r_norm X [2, 1, 3, 0] ([(0, .ref (ad 0 0 0)), (3, .long v5), (5, .int a5), (6, .int v6)]) rfl ?_
      exact ih _ _ _ h kk
set_option maxRecDepth 10000 in
theorem w6_digestOfHours_L5 {ad : xAd} {E : xE} (X : FX ad E cX6_digestOfHours 7 RX6 (some .long) 5 113)   {K : Int64 → xSt → Prop} {Q : Int64 → xSt → Prop} : ∀ (n : Nat) (a3 : Int64) (a5 : Int32) (σ : xSt), d6_digestOfHours_L5 K Q n a3 a5 σ → (∀ (a3 : Int64) (s : xSt), K a3 s → KK ad E (qL Q) 49 ([(0, .ref (ad 0 0 0)), (3, .long a3)]) [] s) → KK ad E (qL Q) 5 ([(0, .ref (ad 0 0 0)), (3, .long a3), (5, .int a5)]) [] σ := by
  intro n
  induction n with
  | zero => intro a3 a5 σ h kk; exact h.elim
  | succ n ih =>
    intro a3 a5 σ h kk
    rw [d6_digestOfHours_L5] at h
    refine r_iload X (x_dr DX6_digestOfHours 4 rfl) 2 rfl ?_
    refine r_bipush (v := 20) X (x_dr DX6_digestOfHours 5 rfl) (by decide) ?_
    refine r_icmp_ge X 49 (x_dr DX6_digestOfHours 6 rfl) (by decide) (fun c1 => ?_) (fun c1 => ?_)
    · replace h := h.1 c1
      refine r_norm X [0, 1] ([(0, .ref (ad 0 0 0)), (3, .long a3)]) rfl ?_
      exact kk _ _ h
    · replace h := h.2 c1
      refine r_iconst (v := 0) X (x_dr DX6_digestOfHours 7 rfl) (by decide) ?_
      refine r_istore X ([(6, .int 0), (0, .ref (ad 0 0 0)), (3, .long a3), (5, .int a5)]) (x_dr DX6_digestOfHours 8 rfl) (by decide) rfl ?_
      refine r_norm X [1, 2, 3, 0] ([(0, .ref (ad 0 0 0)), (3, .long a3), (5, .int a5), (6, .int 0)]) rfl ?_
      refine w6_digestOfHours_L15 X  _ _ _ _ h (fun v8 s7 h => ?_)
      obtain ⟨v9, ev9⟩ : ∃ z : Int32, z = a5 + 1 := ⟨_, rfl⟩
      replace h := h v9 ev9
      refine r_iinc (v := v9) X ([(5, .int v9), (0, .ref (ad 0 0 0)), (3, .long v8)]) 2 (x_dr DX6_digestOfHours 24 rfl) rfl (by rw [ev9]; rfl) (by decide) rfl ?_
      refine r_goto X 5 (x_dr DX6_digestOfHours 25 rfl) (by decide) ?_
      refine r_norm X [1, 2, 0] ([(0, .ref (ad 0 0 0)), (3, .long v8), (5, .int v9)]) rfl ?_
      exact ih _ _ _ h kk
