-- the two sides' states
set_option maxHeartbeats 4000000 in
theorem l7_faultOf {t : Td} {a : Int32} {s : xSt} {Q : Int32 → xSt → Prop} (hT : VT t) (hX : X7 t s) (hq : ∀ s', B7 (bt t) s' → xI s' 13 2 = nI (t_fg t) → xk k7r s s' → (¬ a = 0 → Q (ft1 t) s') ∧ (a = 0 → Q (ft0 t) s')) : d7_faultOf a s Q := by
  unfold d7_faultOf
  refine l7_readsStone hT hX fun s1 h1 h2 k1 => ?_
  refine l7_readsMembers hT (hX.keep k1 rfl rfl) fun s2 m m4 k2 => ?_
  exact hq s2 ⟨m4, m.1, by rw [k2.2.1 13 3 rfl]; exact h1, m.2.1, m.2.2⟩ (by rw [k2.1 13 2 rfl]; exact h2) (k1.tr (k7m_r k2))
set_option maxHeartbeats 4000000 in
theorem l7_reads {t : Td} {s : xSt} {Q : xSt → Prop} (hT : VT t) (hX : X7 t s) (hq : ∀ s', B7 (bt t) s' → xI s' 13 2 = nI (t_fg t) → xk k7r s s' → Q s') : d7_reads s Q := by
  unfold d7_reads
  exact l7_faultOf hT hX fun s' h1 h2 h3 => bn_t rfl (hq s' h1 h2 h3)
/-- the class's state, what was told -/
def PC0 (t : Td) (s : xSt) : Prop := X6 t s ∧ CT t s ∧ (xI s 3 8 = nI (tne t) ∧ ∀ e, e < tne t → xA s 3 5 e = nI (tg t e).1 ∧ xA s 3 6 e = nI (tg t e).2.1 ∧ xA s 3 7 e = nI (tg t e).2.2) ∧ (xI s 7 3 = nI (tns t) ∧ ∀ i, i < tns t → xA s 7 0 i = nI (tsn t i).1 ∧ xA s 7 1 i = nI (tsn t i).2.1 ∧ xA s 7 2 i = nI (tsn t i).2.2) ∧ (∀ k, k < 4 → xI s (9 + k) 1 = tsf t k ∧ xI s (9 + k) 2 = nI (tsz t k) ∧ ∀ j, j < tsz t k → xA s (9 + k) 0 j = tit t k j) ∧ xI s 0 12 = tfd t
/-- the class's state, what is known of the sitting -/
def PCs (t : Td) (s : xSt) : Prop := xI s 0 11 = 1 ∨ (xI s 0 11 = 0 ∧ N2 5 (bt t) 20 s)
def PC (t : Td) (s : xSt) : Prop := PC0 t s ∧ PCs t s
/-- the reference's state -/
def PM (t : Td) (s : xSt) : Prop := X7 t s ∧ (xI s 13 8 = nI (tne t) ∧ ∀ e, e < tne t → xA s 13 9 e = nI (tg t e).1 ∧ xA s 13 10 e = nI (tg t e).2.1 ∧ xA s 13 11 e = nI (tg t e).2.2) ∧ (xI s 13 31 = nI (tns t) ∧ ∀ i, i < tns t → xA s 13 32 i = nI (tsn t i).1 ∧ xA s 13 33 i = nI (tsn t i).2.1 ∧ xA s 13 34 i = nI (tsn t i).2.2) ∧ (∀ k, k < 4 → xA s 13 36 k = (if tsf t k = -1 then 0 else 1) ∧ (¬ tsf t k = -1 → xA s 13 37 k = tsf t k) ∧ (¬ tsf t k = -1 → xA s 13 38 k = nI (tsz t k)) ∧ (¬ tsf t k = -1 → ∀ j, j < tsz t k → xA s 13 39 (60 * k + j) = tit t k j)) ∧ xI s 13 41 = tfd t
def kM (t o k : Nat) : Bool := !(o == 13) || (t == 0 && (k == 8 || k == 31 || k == 41)) || (t == 1 && (decide (k ≤ 1) || (decide (9 ≤ k) && decide (k ≤ 11)) || (decide (32 ≤ k) && decide (k ≤ 34)) || (decide (36 ≤ k) && decide (k ≤ 39))))
def kC (_t o _k : Nat) : Bool := o == 13 || o == 0 || o == 1 || o == 2 || o == 3 || o == 5 || o == 7 || (decide (9 ≤ o) && decide (o ≤ 12))
/-- the class's side stays -/
def kS (_t o _k : Nat) : Bool := !(o == 13)
/-- the reference's side stays -/
def kR (_t o _k : Nat) : Bool := o == 13
set_option maxHeartbeats 4000000 in
theorem PM.keep {t : Td} {s s1 : xSt} {kp : Nat → Nat → Nat → Bool} (h : PM t s) (k : xk kp s s1) (hk : ∀ a c, kM a 13 c = true → kp a 13 c = true) : PM t s1 := by
  obtain ⟨h1, h2, h3, h4, h5⟩ := h
  refine ⟨h1.keep k (hk _ _ rfl) (hk _ _ rfl), ⟨by rw [k.1 13 8 (hk _ _ rfl)]; exact h2.1, ?_⟩, ⟨by rw [k.1 13 31 (hk _ _ rfl)]; exact h3.1, ?_⟩, ?_, by rw [k.1 13 41 (hk _ _ rfl)]; exact h5⟩
  · rw [k.2.1 13 9 (hk _ _ rfl), k.2.1 13 10 (hk _ _ rfl), k.2.1 13 11 (hk _ _ rfl)]; exact h2.2
  · rw [k.2.1 13 32 (hk _ _ rfl), k.2.1 13 33 (hk _ _ rfl), k.2.1 13 34 (hk _ _ rfl)]; exact h3.2
  · rw [k.2.1 13 36 (hk _ _ rfl), k.2.1 13 37 (hk _ _ rfl), k.2.1 13 38 (hk _ _ rfl), k.2.1 13 39 (hk _ _ rfl)]; exact h4
set_option maxHeartbeats 4000000 in
theorem CT.keep {t : Td} {s s1 : xSt} {kp : Nat → Nat → Nat → Bool} (h : CT t s) (k : xk kp s s1) (hk : ∀ a c, kp a 3 c = true) : CT t s1 := by
  obtain ⟨⟨h1, h2, h3, h4⟩, h5⟩ := h
  exact ⟨⟨by rw [k.1 3 4 (hk _ _)]; exact h1, by rw [k.2.1 3 1 (hk _ _)]; exact h2, by rw [k.2.1 3 2 (hk _ _)]; exact h3, by rw [k.2.1 3 3 (hk _ _)]; exact h4⟩, by rw [k.2.1 3 0 (hk _ _)]; exact h5⟩
set_option maxHeartbeats 4000000 in
theorem PC0.keep {t : Td} {s s1 : xSt} {kp : Nat → Nat → Nat → Bool} (h : PC0 t s) (k : xk kp s s1) (h0 : kp 0 0 12 = true) (hk : ∀ a o c, o = 1 ∨ o = 2 ∨ o = 3 ∨ o = 7 ∨ (9 ≤ o ∧ o ≤ 12) → kp a o c = true) : PC0 t s1 := by
  obtain ⟨h1, h2, h3, h4, h5, h6⟩ := h
  refine ⟨h1.keep k (hk _ _ _ (by omega)) (hk _ _ _ (by omega)) (hk _ _ _ (by omega)) (hk _ _ _ (by omega)), h2.keep k (fun a c => hk _ _ _ (by omega)), ⟨by rw [k.1 3 8 (hk _ _ _ (by omega))]; exact h3.1, ?_⟩, ⟨by rw [k.1 7 3 (hk _ _ _ (by omega))]; exact h4.1, ?_⟩, fun q hq => ?_, by rw [k.1 0 12 h0]; exact h6⟩
  · rw [k.2.1 3 5 (hk _ _ _ (by omega)), k.2.1 3 6 (hk _ _ _ (by omega)), k.2.1 3 7 (hk _ _ _ (by omega))]; exact h3.2
  · rw [k.2.1 7 0 (hk _ _ _ (by omega)), k.2.1 7 1 (hk _ _ _ (by omega)), k.2.1 7 2 (hk _ _ _ (by omega))]; exact h4.2
  · rw [k.1 (9 + q) 1 (hk _ _ _ (by omega)), k.1 (9 + q) 2 (hk _ _ _ (by omega)), k.2.1 (9 + q) 0 (hk _ _ _ (by omega))]; exact h5 q hq
set_option maxHeartbeats 4000000 in
theorem N2.keep {c N : Nat} {b : Bl} {s s1 : xSt} {kp : Nat → Nat → Nat → Bool} (h : N2 c b N s) (k : xk kp s s1) (hk : ∀ a e, kp a c e = true) : N2 c b N s1 := by
  obtain ⟨⟨h1, h2, h3, h4, h5, h6, h7, h8⟩, g⟩ := h
  refine ⟨⟨by rw [k.1 c 8 (hk _ _)]; exact h1, by rw [k.2.1 c 2 (hk _ _)]; exact h2, by rw [k.2.1 c 0 (hk _ _)]; exact h3, by rw [k.2.1 c 3 (hk _ _)]; exact h4, by rw [k.2.1 c 4 (hk _ _)]; exact h5, by rw [k.2.1 c 5 (hk _ _)]; exact h6, by rw [k.2.1 c 7 (hk _ _)]; exact h7, by rw [k.1 c 9 (hk _ _)]; exact h8⟩, fun h hh => ?_⟩
  obtain ⟨g1, g2, g3, g4, g5, g6, g7, g8⟩ := g h hh
  exact ⟨by rw [k.2.2 c 10 h (hk _ _)]; exact g1, by rw [k.2.2 c 11 h (hk _ _)]; exact g2, by rw [k.2.2 c 12 h (hk _ _)]; exact g3, by rw [k.2.2 c 13 h (hk _ _)]; exact g4, by rw [k.2.2 c 14 h (hk _ _)]; exact g5, by rw [k.2.2 c 15 h (hk _ _)]; exact g6, by rw [k.2.1 c 16 (hk _ _)]; exact g7, by rw [k.2.1 c 17 (hk _ _)]; exact g8⟩
set_option maxHeartbeats 4000000 in
theorem PC.keep {t : Td} {s s1 : xSt} {kp : Nat → Nat → Nat → Bool} (h : PC t s) (k : xk kp s s1) (h0 : kp 0 0 12 = true) (h1 : kp 0 0 11 = true) (hk : ∀ a o c, o = 1 ∨ o = 2 ∨ o = 3 ∨ o = 5 ∨ o = 7 ∨ (9 ≤ o ∧ o ≤ 12) → kp a o c = true) : PC t s1 := by
  refine ⟨h.1.keep k h0 (fun a o c q => hk a o c (by omega)), ?_⟩
  rcases h.2 with g | ⟨g, g2⟩
  · exact Or.inl (by rw [k.1 0 11 h1]; exact g)
  · exact Or.inr ⟨by rw [k.1 0 11 h1]; exact g, g2.keep k (fun a e => hk _ _ _ (by omega))⟩
set_option maxHeartbeats 4000000 in
theorem PC.stS {t : Td} {s s1 : xSt} (h : PC t s) (k : xk kS s s1) : PC t s1 := h.keep k rfl rfl (fun a o c q => by
  simp only [kS, Bool.not_eq_true', beq_eq_false_iff_ne]; omega)
set_option maxHeartbeats 4000000 in
theorem PM.stR {t : Td} {s s1 : xSt} (h : PM t s) (k : xk kR s s1) : PM t s1 := h.keep k (fun _ _ _ => rfl)
set_option maxHeartbeats 4000000 in
theorem C1_told {t : Td} {s : xSt} (hT : VT t) (h : PC0 t s) : C1 3 (bt t) s := by
  have := hT.2.2.1
  exact ⟨h.2.1.1.1, h.2.1.1.2.1, h.2.1.2, h.2.1.1.2.2.1, h.2.1.1.2.2.2, tne t, tg t, by omega, h.2.2.1.1, rfl, h.2.2.1.2⟩
def kA5 (t o k : Nat) : Bool := !(o == 5) && !(o == 0 && t == 0 && k == 11)
set_option maxHeartbeats 4000000 in
theorem l6_chamberAsTold {t : Td} {s : xSt} {Q : xSt → Prop} (hT : VT t) (h : PC t s) (hq : ∀ s', PC t s' → N2 5 (bt t) 20 s' → xk kA5 s s' → Q s') : d6_chamberAsTold s Q := by
  unfold d6_chamberAsTold
  rcases h.2 with g | ⟨g, g2⟩
  · refine br_f (by rw [g]; decide) ?_
    refine l2_sit (by decide) (VB_bt hT) (C1_told hT h.1) (Nat.le_refl 20) fun s2 n2 k2 => ?_
    intro s3 e3
    subst e3
    have k3 : xk kA5 s (xsI s2 0 11 0) := (k2.mono (fun a o c q => by
      simp only [kA5, kw, Bool.and_eq_true] at q ⊢; exact q.1)).sI rfl
    have n3 : N2 5 (bt t) 20 (xsI s2 0 11 0) := n2.keep (kp := fun a o c => !(o == 0)) (xk.rf.sI rfl) (fun _ _ => rfl)
    refine hq _ ⟨h.1.keep k3 rfl (fun a o c q => ?_), Or.inr ⟨xI_xsI_eq _ _ _ _, n3⟩⟩ n3 k3
    simp only [kA5, Bool.and_eq_true, Bool.not_eq_true', Bool.and_eq_false_iff, beq_eq_false_iff_ne]
    omega
  · exact br_t g (hq s h g2 xk.rf)
def kT7 (t o k : Nat) : Bool := !(o == 13 && ((t == 1 && (k == 3 || (decide (5 ≤ k) && decide (k ≤ 7)) || (decide (13 ≤ k) && decide (k ≤ 15)))) || (t == 0 && (k == 2 || k == 4 || k == 12 || k == 16))))
set_option maxHeartbeats 4000000 in
theorem k7r_T {s s1 : xSt} (h : xk k7r s s1) : xk kT7 s s1 := h.mono (fun t o k q => by
  simp only [k7r, kT7, Bool.not_eq_true', Bool.and_eq_false_iff, Bool.or_eq_false_iff, beq_eq_false_iff_ne, decide_eq_false_iff_not] at q ⊢
  omega)
set_option maxHeartbeats 4000000 in
theorem no_ev : ∀ e, e < 9 → ¬ ((0 : Int32) >>> (nI e &&& 31)) &&& 1 = 1 := by decide
set_option maxHeartbeats 4000000 in
theorem B7.keep {b : Bl} {s s1 : xSt} {kp : Nat → Nat → Nat → Bool} (h : B7 b s) (k : xk kp s s1) (h0 : kp 0 13 4 = true) (h1 : kp 1 13 5 = true) (h2 : kp 1 13 3 = true) (h3 : kp 1 13 6 = true) (h4 : kp 1 13 7 = true) : B7 b s1 := by
  obtain ⟨g1, g2, g3, g4, g5⟩ := h
  exact ⟨by rw [k.1 13 4 h0]; exact g1, by rw [k.2.1 13 5 h1]; exact g2, by rw [k.2.1 13 3 h2]; exact g3, by rw [k.2.1 13 6 h3]; exact g4, by rw [k.2.1 13 7 h4]; exact g5⟩
def kE7 (t o k : Nat) : Bool := !(o == 13 && ((t == 1 && decide (13 ≤ k) && decide (k ≤ 15)) || (t == 0 && (k == 12 || k == 16))))
set_option maxHeartbeats 4000000 in
theorem kE7_T {s s1 : xSt} (h : xk kE7 s s1) : xk kT7 s s1 := h.mono (fun t o k q => by
  simp only [kE7, kT7, Bool.not_eq_true', Bool.and_eq_false_iff, Bool.or_eq_false_iff, beq_eq_false_iff_ne, decide_eq_false_iff_not] at q ⊢
  omega)
/-- the events as told stand in the row of now -/
def E7t (t : Td) (s : xSt) : Prop := xI s 13 12 = nI (tne t) ∧ (∀ e, e < tne t → xA s 13 13 e = nI (tg t e).1 ∧ xA s 13 14 e = nI (tg t e).2.1 ∧ xA s 13 15 e = nI (tg t e).2.2) ∧ xI s 13 16 = 0
set_option maxHeartbeats 4000000 in
theorem E7t.e7 {t : Td} {s : xSt} (hT : VT t) (h : E7t t s) : E7 (bt t) s := by
  have := hT.2.2.1
  refine ⟨tne t, tg t, fun _ => false, by omega, h.1, h.2.1, fun e he => ?_, ?_, hT.2.2.2.1⟩
  · rw [h.2.2]
    exact ⟨fun q => absurd q (no_ev e (by omega)), fun q => by cases q⟩
  · show List.map (tg t) (List.range (tne t)) = _
    congr 1
    exact (List.filter_eq_self.mpr (fun _ _ => rfl)).symm
set_option maxHeartbeats 4000000 in
theorem l7_asTold {t : Td} {s : xSt} {Q : xSt → Prop} (hT : VT t) (h : PM t s) (hq : ∀ s', B7 (bt t) s' → E7t t s' → xI s' 13 2 = nI (t_fg t) → PM t s' → xk kT7 s s' → Q s') : d7_asTold s Q := by
  have hn := hT.2.2.1
  unfold d7_asTold
  refine l7_reads hT h.1 fun s1 b1 f1 k1 => ?_
  have p1 : PM t s1 := h.keep k1 (fun a c q => by
    simp only [kM, k7r, Bool.not_eq_true', Bool.and_eq_false_iff, Bool.or_eq_false_iff, beq_eq_false_iff_ne, decide_eq_false_iff_not, Bool.or_eq_true, Bool.and_eq_true, beq_iff_eq, decide_eq_true_eq] at q ⊢
    omega)
  intro s2 e2
  rw [p1.2.1.1] at e2
  have k2 : xk kE7 s1 s2 := by subst e2; exact xk.rf.sI rfl
  have i2 : xI s2 13 12 = nI (tne t) := by subst e2; exact xI_xsI_eq _ _ _ _
  clear e2
  refine lp0 (fun n i s3 => d7_asTold_L14 _ Q n (nI i) s3) (fun i s3 => (∀ e, e < i → xA s3 13 13 e = nI (tg t e).1) ∧ (∀ e, e < i → xA s3 13 14 e = nI (tg t e).2.1) ∧ (∀ e, e < i → xA s3 13 15 e = nI (tg t e).2.2) ∧ xI s3 13 12 = nI (tne t) ∧ xk kE7 s1 s3) (tne t) (by omega) ?_ ?_ s2 ⟨fun _ q => by omega, fun _ q => by omega, fun _ q => by omega, i2, k2⟩
  · intro n s3 ⟨g1, g2, g3, g4, g5⟩
    rw [d7_asTold_L14, g5.1 13 8 rfl, p1.2.1.1]
    refine br_t (Int32.le_refl _) ?_
    intro s15 e15
    have k15 : xk kE7 s1 s15 := by subst e15; exact g5.sI rfl
    refine hq s15 (b1.keep k15 rfl rfl rfl rfl rfl) ?_ (by rw [k15.1 13 2 rfl]; exact f1) (p1.keep k15 (fun a c q => ?_)) ((k7r_T k1).tr (kE7_T k15))
    · subst e15
      exact ⟨by rw [xI_xsI_ne (by decide)]; exact g4, fun e he => ⟨g1 e he, g2 e he, g3 e he⟩, xI_xsI_eq _ _ _ _⟩
    · simp only [kM, kE7, Bool.not_eq_true', Bool.and_eq_false_iff, Bool.or_eq_false_iff, beq_eq_false_iff_ne, decide_eq_false_iff_not, Bool.or_eq_true, Bool.and_eq_true, beq_iff_eq, decide_eq_true_eq] at q ⊢
      omega
  · intro n i s3 hi ⟨g1, g2, g3, g4, g5⟩ ih
    have q := p1.2.1.2 i hi
    rw [d7_asTold_L14, g5.1 13 8 rfl, p1.2.1.1, ncl (by omega), g5.2.1 13 9 rfl, q.1]
    refine br_f (nle hi (by omega)) ⟨nin (by omega) (by omega), nin (by omega) (by omega), ?_⟩
    intro s6 e6
    subst e6
    rw [xA_xuA_ne (by decide), g5.2.1 13 10 rfl, q.2.1]
    refine ⟨nin (by omega) (by omega), nin (by omega) (by omega), ?_⟩
    intro s9 e9
    subst e9
    rw [xA_xuA_ne (by decide), xA_xuA_ne (by decide), g5.2.1 13 11 rfl, q.2.2]
    refine ⟨nin (by omega) (by omega), nin (by omega) (by omega), ?_⟩
    intro s12 e12 v e
    subst e12 e
    rw [nI_1]
    refine ih _ ⟨?_, ?_, ?_, g4, ((g5.uA rfl).uA rfl).uA rfl⟩
    · rw [xA_xuA_ne (by decide), xA_xuA_ne (by decide), xA_xuA_eq]; exact arow (g := fun e => (tg t e).1) g1 rfl
    · rw [xA_xuA_ne (by decide), xA_xuA_eq, xA_xuA_ne (by decide)]; exact arow (g := fun e => (tg t e).2.1) g2 rfl
    · rw [xA_xuA_eq, xA_xuA_ne (by decide), xA_xuA_ne (by decide)]; exact arow (g := fun e => (tg t e).2.2) g3 rfl
set_option maxHeartbeats 4000000 in
theorem PM.st7 {t : Td} {s s1 : xSt} (h : PM t s) (k : xk kr7 s s1) : PM t s1 := h.keep k (fun a c q => by
  simp only [kM, kr7, Bool.not_eq_true', Bool.and_eq_false_iff, Bool.or_eq_false_iff, beq_eq_false_iff_ne, decide_eq_false_iff_not, Bool.or_eq_true, Bool.and_eq_true, beq_iff_eq, decide_eq_true_eq] at q ⊢
  omega)
set_option maxHeartbeats 4000000 in
theorem kr7_S {s s1 : xSt} (h : xk kr7 s s1) : xk kS s s1 := h.mono (fun t o k q => by
  simp only [kr7, kS, Bool.not_eq_true', Bool.and_eq_false_iff, beq_eq_false_iff_ne] at q ⊢
  exact Or.inl q)
set_option maxHeartbeats 4000000 in
theorem kT7_S {s s1 : xSt} (h : xk kT7 s s1) : xk kS s s1 := h.mono (fun t o k q => by
  simp only [kT7, kS, Bool.not_eq_true', Bool.and_eq_false_iff, beq_eq_false_iff_ne] at q ⊢
  exact Or.inl q)
set_option maxHeartbeats 4000000 in
theorem k7r_S {s s1 : xSt} (h : xk k7r s s1) : xk kS s s1 := kT7_S (k7r_T h)
set_option maxHeartbeats 4000000 in
theorem l7_runsTold {t : Td} {s : xSt} {Q : xSt → Prop} (hT : VT t) (h : PM t s) (hq : ∀ s', N7 (bt t) s' → xI s' 13 2 = nI (t_fg t) → PM t s' → xk kS s s' → Q s') : d7_runsTold s Q := by
  unfold d7_runsTold
  refine l7_asTold hT h fun s1 b1 e1 f1 p1 k1 => l7_runs (VB_bt hT) b1 (e1.e7 hT) fun s2 n2 k2 => ?_
  exact hq s2 n2 (by rw [k2.1 13 2 rfl]; exact f1) (p1.st7 k2) ((kT7_S k1).tr (kr7_S k2))
