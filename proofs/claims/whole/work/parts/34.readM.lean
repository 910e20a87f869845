-- the reference reads its texts
def X7 (t : Td) (s : xSt) : Prop := xA s 13 0 0 = nI (tn0 t) ∧ (∀ j, j < tn0 t → xA s 13 1 j = tf0 t j) ∧ xA s 13 0 1 = nI (tn1 t) ∧ (∀ j, j < tn1 t → xA s 13 1 (31 + j) = tf1 t j)
def k7r (t o k : Nat) : Bool := !(o == 13 && ((t == 1 && (k == 3 || (decide (5 ≤ k) && decide (k ≤ 7)))) || (t == 0 && (k == 2 || k == 4))))
set_option maxHeartbeats 4000000 in
theorem X7.keep {t : Td} {s s1 : xSt} {kp : Nat → Nat → Nat → Bool} (h : X7 t s) (k : xk kp s s1) (h1 : kp 1 13 0 = true) (h2 : kp 1 13 1 = true) : X7 t s1 :=
  ⟨by rw [k.2.1 13 0 h1]; exact h.1, by rw [k.2.1 13 1 h2]; exact h.2.1, by rw [k.2.1 13 0 h1]; exact h.2.2.1, by rw [k.2.1 13 1 h2]; exact h.2.2.2⟩
set_option maxHeartbeats 4000000 in
theorem l7_dg {x : Int32} {s : xSt} {Q : Int32 → xSt → Prop} (q1 : dgt x = true → Q 1 s) (q0 : dgt x = false → Q 0 s) : d7_in x 48 57 s Q := by
  unfold d7_in
  refine ⟨fun a => q0 ?_, fun a => ⟨fun b => q0 ?_, fun b => q1 ?_⟩⟩
  · simp only [dgt, Bool.and_eq_false_iff, decide_eq_false_iff_not]; exact Or.inl (Int32.not_le.mpr a)
  · simp only [dgt, Bool.and_eq_false_iff, decide_eq_false_iff_not]; exact Or.inr (Int32.not_le.mpr b)
  · simp only [dgt, Bool.and_eq_true, decide_eq_true_eq]; exact ⟨Int32.not_lt.mp a, Int32.not_lt.mp b⟩
set_option maxHeartbeats 4000000 in
theorem v02 : vp_in 0 2 := nin (a := 0) (n := 2) (by omega) (by omega)
set_option maxHeartbeats 4000000 in
theorem v12 : vp_in 1 2 := nin (a := 1) (n := 2) (by omega) (by omega)
set_option maxHeartbeats 4000000 in
theorem z0 : (0 : Int32).toNatClampNeg = 0 := rfl
set_option maxHeartbeats 4000000 in
theorem z1 : (1 : Int32).toNatClampNeg = 1 := rfl
set_option maxHeartbeats 4000000 in
theorem l7_readsStone {t : Td} {s : xSt} {Q : Int32 → xSt → Prop} (hT : VT t) (hX : X7 t s) (hq : ∀ s', (∀ p, p < 12 → xA s' 13 3 p = nI (t_dm t p)) → xI s' 13 2 = nI (t_fg t) → xk k7r s s' → Q (ft0 t) s') : d7_readsStone s Q := by
  have hn := hT.1
  unfold d7_readsStone
  intro s1 e1
  have k1 : xk k7r s s1 := by subst e1; exact xk.rf.sI rfl
  have f1 : xI s1 13 2 = nI 0 := by subst e1; exact xI_xsI_eq _ _ _ _
  clear e1
  refine lp0 (fun n i s2 => d7_readsStone_L7 _ Q n (nI i) s2) (fun i s2 => (∀ p, p < i → xA s2 13 3 p = nI 5) ∧ xI s2 13 2 = nI 0 ∧ xk k7r s s2) 12 (by omega) ?_ ?_ s1 ⟨fun _ q => by omega, f1, k1⟩
  rotate_left
  · intro n i s2 hi ⟨h1, h2, h3⟩ ih
    rw [d7_readsStone_L7, ncl (by omega)]
    refine br_f (nle (a := 12) hi (by omega)) ⟨nin hi (by omega), ?_⟩
    intro s4 e4 v e
    subst e4 e
    rw [nI_1]
    refine ih _ ⟨?_, h2, h3.uA rfl⟩
    rw [xA_xuA_eq]
    exact arow (g := fun _ => 5) h1 rfl
  intro n s2 ⟨h1, h2, h3⟩
  rw [d7_readsStone_L7]
  refine br_t (Int32.le_refl _) ?_
  clear n
  have x2 := hX.keep h3 rfl rfl
  refine lp0 (fun n i (_ : Unit) => d7_readsStone_L28 _ Q n (nI i) s2) (fun i _ => ∀ j, j < i → p0 t j = true) (tn0 t) (by omega) ?_ ?_ () (fun _ q => by omega)
  rotate_left
  · intro n i _ hi h ih
    rw [d7_readsStone_L28, z0, x2.1, ncl (a := i) (by omega), x2.2.1 i hi]
    refine ⟨v02, br_f (nle hi (by omega)) ⟨nin (n := 62) (by omega) (by omega), l7_dg (fun c => bn_f (by decide) ?_) (fun c => bn_t rfl ?_)⟩⟩
    · intro v e; subst e
      rw [nI_1]
      refine ih () fun j hj => ?_
      rcases Nat.lt_or_ge j i with q | q
      · exact h j q
      · have : j = i := by omega
        subst this; exact c
    · have e : ffi (p0 t) (tn0 t) = i := ffi_uniq (by omega) h (fun _ => c)
      have e2 : t_fg t = 0 := by unfold t_fg; rw [e, if_neg (by omega)]
      have e3 : ft0 t = nI i := by unfold ft0; rw [e, if_neg (by omega)]
      rw [← e3]
      refine hq s2 (fun p hp => ?_) (by rw [e2]; exact h2) h3
      rw [t_dm_ge (by omega)]; exact h1 p hp
  intro n _ h
  have e : ffi (p0 t) (tn0 t) = tn0 t := ffi_uniq (Nat.le_refl _) h (fun q => by omega)
  have e2 : t_fg t = tn0 t := by unfold t_fg; rw [e, if_pos rfl]
  have e3 : ft0 t = -1 := by unfold ft0; rw [e, if_pos rfl]
  rw [e3] at hq
  rw [d7_readsStone_L28, z0, x2.1]
  refine ⟨v02, br_t (Int32.le_refl _) ?_⟩
  clear n
  refine lp0 (fun n i s3 => d7_readsStone_L64 _ Q n (nI i) s3) (fun i s3 => (∀ p, p < 12 → xA s3 13 3 p = nI (if p < i then t_dm t p else 5)) ∧ xk k7r s s3) (tn0 t) (by omega) ?_ ?_ s2 ⟨h1, h3⟩
  · intro n s3 ⟨g1, g2⟩
    have x3 := hX.keep g2 rfl rfl
    rw [d7_readsStone_L64, z0, x3.1]
    refine ⟨v02, br_t (Int32.le_refl _) ⟨v02, ?_⟩⟩
    intro s23 e23
    subst e23
    refine hq _ (fun p hp => ?_) (by rw [xI_xsI_eq, e2]) (g2.sI rfl)
    show xA s3 13 3 p = _
    rw [g1 p hp]
    split
    · rfl
    · rw [t_dm_ge (by omega)]
  · intro n i s3 hi ⟨g1, g2⟩ ih
    have x3 := hX.keep g2 rfl rfl
    rw [d7_readsStone_L64, z0, x3.1, ncl (a := i) (by omega), x3.2.1 i hi]
    refine ⟨v02, br_f (nle hi (by omega)) ⟨nin (n := 62) (by omega) (by omega), nin (n := 12) (by omega) (by omega), ?_⟩⟩
    intro s19 e19 v e0
    subst e19 e0
    rw [nI_1]
    refine ih _ ⟨fun p hp => ?_, g2.uA rfl⟩
    have g := t_dm_lt (t := t) (p := i) (by omega)
    rw [xA_xuA_eq, upd_ap]
    split
    · rename_i q
      rw [if_pos (by omega), q, (dgt_val g.1).1, g.2]
    · rename_i q
      rw [g1 p hp]
      by_cases z : p < i
      · rw [if_pos z, if_pos (by omega)]
      · rw [if_neg z, if_neg (by omega)]
set_option maxHeartbeats 4000000 in
theorem l7_byteAt {t : Td} {i : Nat} {s : xSt} {Q : Int32 → xSt → Prop} (hX : X7 t s) (hT : VT t) (hi : i < 40) (q1 : i < tn1 t → Q (tf1 t i) s) (q2 : tn1 t ≤ i → Q (-1) s) : d7_byteAt (nI i) s Q := by
  have hn := hT.2.1
  unfold d7_byteAt
  rw [z1, hX.2.2.1]
  rcases Nat.lt_or_ge i (tn1 t) with c | c
  · have e : (31 : Int32) + nI i = nI (31 + i) := nI_add 31 i
    rw [e, ncl (by omega), hX.2.2.2 i c]
    exact ⟨v12, br_f (nle c (by omega)) ⟨nin (n := 62) (by omega) (by omega), q1 c⟩⟩
  · exact ⟨v12, br_t (nI_le c (by omega)) (q2 c)⟩
set_option maxHeartbeats 4000000 in
theorem can0_iff {x : Int32} : can x 0 = true ↔ x = 112 ∨ x = 103 ∨ x = 111 := by
  simp only [can, if_true, Bool.or_eq_true, decide_eq_true_eq]
set_option maxHeartbeats 4000000 in
theorem l7_sortAt {t : Td} {i : Nat} {s : xSt} {Q : Int32 → xSt → Prop} (hX : X7 t s) (hT : VT t) (hi : i < 40) (q1 : i < tn1 t → can (tf1 t i) 0 = true → Q (nI (sval (tf1 t i))) s) (q0 : (i < tn1 t → can (tf1 t i) 0 = false) → Q (-1) s) : d7_sortAt (nI i) s Q := by
  unfold d7_sortAt
  refine l7_byteAt hX hT hi (fun h => ?_) (fun h => ?_)
  · have q2 := q1 h
    generalize tf1 t i = x at q2 q0
    unfold sval at q2
    refine ⟨fun a => ⟨fun b => ⟨fun c => q0 fun _ => ?_, fun c => ?_⟩, fun b => ?_⟩, fun a => ?_⟩
    · rw [Bool.eq_false_iff]
      intro z
      rcases can0_iff.mp z with z | z | z
      · exact a z
      · exact b z
      · exact c z
    · have := q2 (can0_iff.mpr (Or.inr (Or.inr c))); rw [if_neg a, if_neg b] at this; exact this
    · have := q2 (can0_iff.mpr (Or.inr (Or.inl b))); rw [if_neg a, if_pos b] at this; exact this
    · have := q2 (can0_iff.mpr (Or.inl a)); rw [if_pos a] at this; exact this
  · exact bn_f (by decide) (bn_f (by decide) (bn_f (by decide) (q0 (fun z => by omega))))
def k7m (t o k : Nat) : Bool := !(o == 13 && ((t == 1 && decide (5 ≤ k) && decide (k ≤ 7)) || (t == 0 && k == 4)))
set_option maxHeartbeats 4000000 in
theorem k7m_r {s s1 : xSt} (h : xk k7m s s1) : xk k7r s s1 := h.mono (fun t o k q => by
  simp only [k7r, k7m, Bool.not_eq_true', Bool.and_eq_false_iff, Bool.or_eq_false_iff, beq_eq_false_iff_ne, decide_eq_false_iff_not] at q ⊢
  omega)
/-- the first n members stand in the reference -/
def MM (t : Td) (n : Nat) (s : xSt) : Prop := (∀ k, k < n → xA s 13 5 k = nI (t_so t k)) ∧ (∀ k, k < n → xA s 13 6 k = nI (t_pl t k)) ∧ (∀ k, k < n → xA s 13 7 k = nI (t_up t k))
set_option maxHeartbeats 4000000 in
theorem can1_iff {x : Int32} : can x 1 = true ↔ 97 ≤ x ∧ x ≤ 108 := by
  simp only [can, if_neg (show ¬ 1 = 0 by decide), if_true, Bool.and_eq_true, decide_eq_true_eq]
set_option maxHeartbeats 4000000 in
theorem can2_iff {x : Int32} : can x 2 = true ↔ x = 117 ∨ x = 100 := by
  simp only [can, if_neg (show ¬ 2 = 0 by decide), if_neg (show ¬ 2 = 1 by decide), if_true, Bool.or_eq_true, decide_eq_true_eq]
set_option maxHeartbeats 4000000 in
theorem can3_iff {x : Int32} : can x 3 = true ↔ x = 59 := by
  simp only [can, if_neg (show ¬ 3 = 0 by decide), if_neg (show ¬ 3 = 1 by decide), if_neg (show ¬ 3 = 2 by decide), decide_eq_true_eq]
set_option maxHeartbeats 4000000 in
theorem l7_readsMember {t : Td} {i : Nat} {s : xSt} {Q : Int32 → xSt → Prop} (hX : X7 t s) (hT : VT t) (hi : i < 8) (hM : MM t i s)
    (q0 : ∀ r, r < 3 → (∀ j, j < r → 4 * i + j < tn1 t ∧ can (tf1 t (4 * i + j)) j = true) → (4 * i + r < tn1 t → can (tf1 t (4 * i + r)) r = false) → Q (nI r) s)
    (q1 : (∀ j, j < 3 → 4 * i + j < tn1 t ∧ can (tf1 t (4 * i + j)) j = true) → ∀ s', MM t (i + 1) s' → xI s' 13 4 = xI s 13 4 → xk k7m s s' → Q 3 s') : d7_readsMember (nI i) (nI (4 * i)) s Q := by
  unfold d7_readsMember
  rw [nI_1, l_2, nI_add]
  refine br_f (nne (b := 8) (by omega) (by omega) (by omega)) ?_
  refine l7_sortAt hX hT (by omega) (fun a0 c0 => ?_) (fun c0 => bn_t rfl (q0 0 (by omega) (fun j q => by omega) c0))
  have hs : sval (tf1 t (4 * i)) ≤ 2 := by unfold sval; split; omega; split <;> omega
  refine bn_f (nI_nm (by omega)) (l7_byteAt hX hT (by omega) (fun a1 => ?_) (fun c1 => ?_))
  rotate_left
  · refine l7_in (fun _ => bn_t rfl (q0 1 (by omega) (fun j q => ?_) (fun q => by omega))) (fun z _ => absurd (by decide) z)
    have : j = 0 := by omega
    subst this; exact ⟨a0, c0⟩
  refine l7_in (fun z => bn_t rfl (q0 1 (by omega) (fun j q => ?_) (fun _ => ?_))) (fun b1 b2 => bn_f (by decide) ?_)
  · have : j = 0 := by omega
    subst this; exact ⟨a0, c0⟩
  · rw [Bool.eq_false_iff]
    intro w
    have w := can1_iff.mp w
    rcases z with z | z
    · exact Int32.not_lt.mpr w.1 z
    · exact Int32.not_lt.mpr w.2 z
  have c1 : can (tf1 t (4 * i + 1)) 1 = true := can1_iff.mpr ⟨Int32.not_lt.mp b1, Int32.not_lt.mp b2⟩
  have hj2 : ∀ j, j < 2 → 4 * i + j < tn1 t ∧ can (tf1 t (4 * i + j)) j = true := by
    intro j q
    rcases (show j = 0 ∨ j = 1 by omega) with e | e <;> subst e
    · exact ⟨a0, c0⟩
    · exact ⟨a1, c1⟩
  have pl := (can1_val (can1_iff.mp c1).1 (can1_iff.mp c1).2).1
  refine l7_byteAt hX hT (by omega) (fun a2 => ?_) (fun c2 => br_f (by decide) (br_f (by decide) (q0 2 (by omega) hj2 (fun q => by omega))))
  have good : ∀ u : Nat, uval (tf1 t (4 * i + 2)) = u → can (tf1 t (4 * i + 2)) 2 = true → ∀ s4 : xSt, s4 = xuA (xuA (xuA s 13 5 i (nI (sval (tf1 t (4 * i))))) 13 6 i (tf1 t (4 * i + 1) - 97)) 13 7 i (nI u) → Q 3 s4 := by
    intro u hu c2 s4 e4
    subst e4
    refine q1 (fun j q => ?_) _ ⟨?_, ?_, ?_⟩ rfl (((xk.rf.uA rfl).uA rfl).uA rfl)
    · rcases (show j < 2 ∨ j = 2 by omega) with e | e
      · exact hj2 j e
      · subst e; exact ⟨a2, c2⟩
    · rw [xA_xuA_ne (by decide), xA_xuA_ne (by decide), xA_xuA_eq]; exact arow hM.1 rfl
    · rw [xA_xuA_ne (by decide), xA_xuA_eq, xA_xuA_ne (by decide)]; exact arow hM.2.1 pl
    · rw [xA_xuA_eq, xA_xuA_ne (by decide), xA_xuA_ne (by decide)]; exact arow hM.2.2 (by rw [← hu]; rfl)
  have tail : ∀ K : xSt → Prop, (∀ s4 : xSt, s4 = xuA (xuA s 13 5 i (nI (sval (tf1 t (4 * i))))) 13 6 i (tf1 t (4 * i + 1) - 97) → K s4) → d7_sortAt (nI (4 * i)) s (fun v14 s13 => vp_in (nI i) 9 ∧ ∀ s16 : xSt, s16 = xuA s13 13 5 (nI i).toNatClampNeg v14 → d7_byteAt (nI (4 * i + 1)) s16 (fun v18 s17 => vp_in (nI i) 9 ∧ ∀ s20 : xSt, s20 = xuA s17 13 6 (nI i).toNatClampNeg (v18 - 97) → K s20)) := by
    intro K hK
    refine l7_sortAt hX hT (by omega) (fun _ _ => ⟨nin (by omega) (by omega), ?_⟩) (fun z => by rw [c0] at z; cases z a0)
    intro s16 e16
    rw [ncl (by omega)] at e16
    have x16 : X7 t s16 := by subst e16; exact hX.keep (kp := k7m) (xk.rf.uA rfl) rfl rfl
    refine l7_byteAt x16 hT (by omega) (fun _ => ⟨nin (by omega) (by omega), ?_⟩) (fun z => by omega)
    intro s20 e20
    rw [ncl (by omega)] at e20
    subst e16
    exact hK s20 e20
  refine ⟨fun e => ?_, fun ne => ⟨fun e => ?_, fun ne2 => ?_⟩⟩
  · have hu : uval (tf1 t (4 * i + 2)) = 1 := if_pos e
    refine tail _ fun s4 e4 => bn_t e ⟨nin (by omega) (by omega), ?_⟩
    intro s25 e25
    rw [ncl (by omega)] at e25
    subst e4
    exact good 1 hu (can2_iff.mpr (Or.inl e)) s25 e25
  · have hu : uval (tf1 t (4 * i + 2)) = 0 := if_neg ne
    refine tail _ fun s4 e4 => bn_f ne ⟨nin (by omega) (by omega), ?_⟩
    intro s25 e25
    rw [ncl (by omega)] at e25
    subst e4
    exact good 0 hu (can2_iff.mpr (Or.inr e)) s25 e25
  · refine q0 2 (by omega) hj2 (fun _ => ?_)
    rw [Bool.eq_false_iff]
    intro w
    rcases can2_iff.mp w with w | w
    · exact ne w
    · exact ne2 w
