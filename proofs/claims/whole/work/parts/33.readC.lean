-- the class reads its texts
set_option maxHeartbeats 4000000 in
theorem X6.keep {t : Td} {s s1 : xSt} {kp : Nat → Nat → Nat → Bool} (h : X6 t s) (k : xk kp s s1) (h1 : kp 0 1 1 = true) (h2 : kp 1 1 0 = true) (h3 : kp 0 2 1 = true) (h4 : kp 1 2 0 = true) : X6 t s1 :=
  ⟨by rw [k.1 1 1 h1]; exact h.1, by rw [k.2.1 1 0 h2]; exact h.2.1, by rw [k.1 2 1 h3]; exact h.2.2.1, by rw [k.2.1 2 0 h4]; exact h.2.2.2⟩
set_option maxHeartbeats 4000000 in
theorem nI_nm {a : Nat} (h : a < 2147483648) : ¬ nI a = -1 := fun e => nI_pos h (by rw [e]; decide)
set_option maxHeartbeats 4000000 in
theorem t_fg_le (t : Td) : t_fg t ≤ tn0 t := by unfold t_fg; split <;> omega
set_option maxHeartbeats 4000000 in
theorem t_dm_lt {t : Td} {p : Nat} (hg : p < t_fg t) : dgt (tf0 t p) = true ∧ t_dm t p = dval (tf0 t p) := by
  unfold t_fg at hg
  split at hg
  · rename_i c
    exact ⟨(ffi_spec (p0 t) (tn0 t)).2.1 p (by rw [c]; exact hg), if_pos ⟨c, hg⟩⟩
  · omega
set_option maxHeartbeats 4000000 in
theorem t_dm_ge {t : Td} {p : Nat} (hg : t_fg t ≤ p) : t_dm t p = 5 := by
  unfold t_fg at hg
  unfold t_dm
  split at hg
  · exact if_neg (fun z => by omega)
  · rename_i c
    exact if_neg (fun z => c z.1)
set_option maxHeartbeats 4000000 in
theorem ft0_c {t : Td} (hT : VT t) : (ft0 t = -1 ∧ t_fg t = tn0 t) ∨ (¬ ft0 t = -1 ∧ t_fg t = 0) := by
  have := hT.1
  unfold ft0 t_fg
  split
  · exact Or.inl ⟨rfl, rfl⟩
  · have := (ffi_spec (p0 t) (tn0 t)).1
    exact Or.inr ⟨nI_nm (by omega), rfl⟩
set_option maxHeartbeats 4000000 in
theorem ft1_c {t : Td} (hT : VT t) : (ft1 t = -1 ∧ (tn1 t = 0 ∨ tn1 t % 4 = 3) ∧ t_m t = (tn1 t + 1) / 4) ∨ (¬ ft1 t = -1 ∧ t_m t = 0) := by
  have := hT.2.1
  unfold ft1 t_m
  split
  · rename_i c
    exact Or.inl ⟨rfl, c.2, rfl⟩
  · have := (ffi_spec (p1 t) (tn1 t)).1
    exact Or.inr ⟨nI_nm (by omega), rfl⟩
def k60 (t o k : Nat) : Bool := !(o == 3 && (t == 1 && k == 0))
set_option maxHeartbeats 4000000 in
theorem l6_readStone {t : Td} {s : xSt} {Q : xSt → Prop} (hT : VT t) (hX : X6 t s) (hq : ∀ s', (∀ p, p < 12 → xA s' 3 0 p = nI (t_dm t p)) → xk k60 s s' → Q s') : d6_readStone s Q := by
  have hn := hT.1
  have hg := t_fg_le t
  have key : d6_readStone_L22 (nI (t_fg t)) (fun s21 => Q s21) Q x_lim 0 s := by
    refine lp0 (fun n i s1 => d6_readStone_L22 (nI (t_fg t)) (fun s21 => Q s21) Q n (nI i) s1) (fun i s1 => (∀ p, p < i → xA s1 3 0 p = nI (t_dm t p)) ∧ xk k60 s s1) 12 (by omega) ?_ ?_ s ⟨fun _ q => by omega, xk.rf⟩
    · intro n s1 ⟨h1, h2⟩
      rw [d6_readStone_L22]
      exact br_t (Int32.le_refl _) (hq s1 h1 h2)
    · intro n i s1 hi ⟨h1, h2⟩ ih
      rw [d6_readStone_L22]
      refine br_f (nle (a := 12) hi (by omega)) ?_
      have fin : ∀ v, v = nI (t_dm t i) → d1_setDamp 3 (nI i) v s1 (fun s16 => ∀ v17 : Int32, v17 = nI i + 1 → d6_readStone_L22 (nI (t_fg t)) (fun s21 => Q s21) Q n v17 s16) := by
        intro v ev
        unfold d1_setDamp
        refine l6_isPlace hi (br_f (by decide) ⟨nin hi (by omega), ?_⟩)
        intro s5 e5 v17 e17
        subst e5 e17
        rw [nI_1, ncl (by omega)]
        refine ih _ ⟨fun p hp => ?_, h2.uA rfl⟩
        rw [xA_xuA_eq, upd_ap]
        split
        · rename_i q; rw [ev, q]
        · exact h1 p (by omega)
      unfold jn
      rcases Nat.lt_or_ge i (t_fg t) with c | c
      · have g := t_dm_lt c
        refine br_f (nle c (by omega)) (l5_b0 hT (hX.keep h2 rfl rfl rfl rfl) (by omega) (fin _ ?_))
        rw [(dgt_val g.1).1, g.2]
      · exact br_t (nI_le c (by omega)) (fin _ (by rw [t_dm_ge c]; rfl))
  unfold d6_readStone
  refine l6_faultOfStone hT hX ?_
  unfold jn
  rcases ft0_c hT with ⟨c, d⟩ | ⟨c, d⟩
  · refine bn_t c ?_
    unfold d5_size
    rw [hX.1, ← d]; exact key
  · refine bn_f c ?_
    rw [d] at key; exact key
def k6m (t o k : Nat) : Bool := !(o == 3 && ((t == 1 && decide (1 ≤ k) && decide (k ≤ 3)) || (t == 0 && k == 4)))
/-- the first n members stand in a bill -/
def MB (o : Nat) (t : Td) (n : Nat) (s : xSt) : Prop := xI s o 4 = nI n ∧ (∀ k, k < n → xA s o 1 k = nI (t_so t k)) ∧ (∀ k, k < n → xA s o 2 k = nI (t_pl t k)) ∧ (∀ k, k < n → xA s o 3 k = nI (t_up t k))
set_option maxHeartbeats 4000000 in
theorem arow {f : Nat → Int32} {g : Nat → Nat} {n : Nat} {v : Int32} (h : ∀ k, k < n → f k = nI (g k)) (hv : v = nI (g n)) : ∀ k, k < n + 1 → upd f n v k = nI (g k) := by
  intro k hk
  rw [upd_ap]
  split
  · rename_i q; rw [q]; exact hv
  · exact h k (by omega)
set_option maxHeartbeats 4000000 in
theorem l1_addMember {t : Td} {n : Nat} {s : xSt} {Q : xSt → Prop} {v1 v2 v3 : Int32} (h : MB 3 t n s) (hn : n < 8) (e1 : v1 = nI (t_so t n)) (e2 : v2 = nI (t_pl t n)) (e3 : v3 = nI (t_up t n)) (hq : ∀ s', MB 3 t (n + 1) s' → xk k6m s s' → Q s') : d1_addMember 3 v1 v2 v3 s Q := by
  unfold d1_addMember
  rw [h.1]
  refine br_f (nI_pos (by omega)) (br_t (nI_lt (b := 8) hn (by omega)) ⟨nin hn (by omega), ?_⟩)
  rw [ncl (by omega)]
  intro s4 e4; subst e4
  rw [xI_xuA, h.1]
  refine ⟨nin hn (by omega), ?_⟩
  rw [ncl (by omega)]
  intro s6 e6; subst e6
  rw [xI_xuA, xI_xuA, h.1]
  refine ⟨nin hn (by omega), ?_⟩
  rw [ncl (by omega)]
  intro s8 e8; subst e8
  intro s9 e9; subst e9
  rw [xI_xuA, xI_xuA, xI_xuA, h.1, nI_1]
  refine hq _ ⟨xI_xsI_eq _ _ _ _, ?_, ?_, ?_⟩ ((((xk.rf.uA rfl).uA rfl).uA rfl).sI rfl)
  · rw [xA_xsI, xA_xuA_ne (by decide), xA_xuA_ne (by decide), xA_xuA_eq]; exact arow h.2.1 e1
  · rw [xA_xsI, xA_xuA_ne (by decide), xA_xuA_eq, xA_xuA_ne (by decide)]; exact arow h.2.2.1 e2
  · rw [xA_xsI, xA_xuA_eq, xA_xuA_ne (by decide), xA_xuA_ne (by decide)]; exact arow h.2.2.2 e3
set_option maxHeartbeats 4000000 in
theorem t_pl_v {t : Td} {k : Nat} (hk : k < t_m t) : tf1 t (4 * k + 1) - 97 = nI (t_pl t k) := by
  have g := t_can hk (show 1 < 3 by omega)
  simp only [can, if_neg (show ¬ 1 = 0 by decide), if_pos, Bool.and_eq_true, decide_eq_true_eq] at g
  exact (can1_val g.1 g.2).1
set_option maxHeartbeats 4000000 in
theorem l6_sortNamed {x : Int32} {s : xSt} {Q : Int32 → xSt → Prop} (hq : Q (nI (sval x)) s) : d6_sortNamed x s Q := by
  unfold d6_sortNamed
  unfold sval at hq
  refine ⟨fun a => ⟨fun b => ?_, fun b => ?_⟩, fun a => ?_⟩
  · rw [if_neg a, if_neg b] at hq; exact hq
  · rw [if_neg a, if_pos b] at hq; exact hq
  · rw [if_pos a] at hq; exact hq
set_option maxHeartbeats 4000000 in
theorem l6_readMembers {t : Td} {s : xSt} {Q : xSt → Prop} (hT : VT t) (hX : X6 t s) (hq : ∀ s', MB 3 t (t_m t) s' → xk k6m s s' → Q s') : d6_readMembers s Q := by
  have hn := hT.2.1
  have hm := t_m_le hT
  unfold d6_readMembers d1_dropMembers
  intro s1 e1
  have k1 : xk k6m s s1 := by subst e1; exact xk.rf.sI rfl
  have m1 : MB 3 t 0 s1 := by subst e1; exact ⟨xI_xsI_eq _ _ _ _, fun _ q => by omega, fun _ q => by omega, fun _ q => by omega⟩
  clear e1
  refine l6_faultOfMembers hT (hX.keep k1 rfl rfl rfl rfl) ?_
  rcases ft1_c hT with ⟨c, d, e⟩ | ⟨c, d⟩
  rotate_left
  · rw [d] at hq
    exact ⟨fun a => absurd a c, fun _ => hq s1 m1 k1⟩
  refine ⟨fun _ => ?_, fun a => absurd c a⟩
  refine lp0 (fun n i s2 => d6_readMembers_L18 (fun s23 => Q s23) Q n (nI (4 * i)) s2) (fun i s2 => MB 3 t i s2 ∧ xk k6m s s2) (t_m t) (by omega) ?_ ?_ s1 ⟨m1, k1⟩
  · intro n s2 ⟨h1, h2⟩
    have x2 := hX.keep h2 rfl rfl rfl rfl
    rw [d6_readMembers_L18]
    unfold d5_size
    rw [x2.2.2.1, l_2, nI_add]
    exact br_t (nI_le (by omega) (by omega)) (hq s2 h1 h2)
  · intro n i s2 hi ⟨h1, h2⟩ ih
    have x2 := hX.keep h2 rfl rfl rfl rfl
    rw [d6_readMembers_L18]
    unfold d5_size
    rw [x2.2.2.1, l_2, nI_add, nI_1]
    refine br_f (nle (by omega) (by omega)) (l5_b1 hT x2 (by omega) ?_)
    intro v10 e10
    rw [t_pl_v hi] at e10
    refine l5_b1 hT x2 (by omega) ?_
    have fin : ∀ v, v = nI (t_up t i) → d5_byteAt 2 (nI (4 * i)) s2 (fun v17 s16 => d6_sortNamed v17 s16 (fun v19 s18 => d1_addMember 3 v19 v10 v s18 (fun s20 => ∀ v21 : Int32, v21 = nI (4 * i) + 4 → d6_readMembers_L18 (fun s23 => Q s23) Q n v21 s20))) := by
      intro v ev
      refine l5_b1 hT x2 (by omega) (l6_sortNamed (l1_addMember h1 (by omega) rfl e10 ev ?_))
      intro s20 g1 g2 v21 e21
      rw [l_4, nI_add] at e21
      subst e21
      exact ih s20 ⟨g1, h2.tr g2⟩
    unfold jn
    refine ⟨fun a => fin 0 ?_, fun a => fin 1 ?_⟩
    · unfold t_up uval; rw [if_neg a]; rfl
    · unfold t_up uval; rw [if_pos a]; rfl
def k6r (t o k : Nat) : Bool := !((o == 3 && ((t == 1 && decide (k ≤ 3)) || (t == 0 && k == 4))) || (o == 0 && t == 0 && k == 11))
/-- the told bill's texts stand in it -/
def CT (t : Td) (s : xSt) : Prop := MB 3 t (t_m t) s ∧ ∀ p, p < 12 → xA s 3 0 p = nI (t_dm t p)
set_option maxHeartbeats 4000000 in
theorem k60_r {s s1 : xSt} (h : xk k60 s s1) : xk k6r s s1 := h.mono (fun t o k q => by
  simp only [k6r, k60, Bool.not_eq_true', Bool.and_eq_false_iff, Bool.or_eq_false_iff, beq_eq_false_iff_ne, decide_eq_false_iff_not] at q ⊢
  omega)
set_option maxHeartbeats 4000000 in
theorem k6m_r {s s1 : xSt} (h : xk k6m s s1) : xk k6r s s1 := h.mono (fun t o k q => by
  simp only [k6r, k6m, Bool.not_eq_true', Bool.and_eq_false_iff, Bool.or_eq_false_iff, beq_eq_false_iff_ne, decide_eq_false_iff_not] at q ⊢
  omega)
set_option maxHeartbeats 4000000 in
theorem l6_readTexts {t : Td} {s : xSt} {Q : xSt → Prop} (hT : VT t) (hX : X6 t s) (hq : ∀ s', CT t s' → xI s' 0 11 = 1 → xk k6r s s' → Q s') : d6_readTexts s Q := by
  unfold d6_readTexts
  refine l6_readStone hT hX fun s1 h1 k1 => l6_readMembers hT (hX.keep k1 rfl rfl rfl rfl) fun s2 h2 k2 => ?_
  intro s3 e3; subst e3
  refine hq _ ⟨⟨by rw [xI_xsI_ne (by decide)]; exact h2.1, h2.2⟩, ?_⟩ (xI_xsI_eq _ _ _ _) (((k60_r k1).tr (k6m_r k2)).sI rfl)
  show ∀ p, p < 12 → xA s2 3 0 p = _
  rw [k2.2.1 3 0 rfl]; exact h1
