set_option maxHeartbeats 4000000 in
theorem ft1_bad {t : Td} {k : Nat} (hk : k ≤ tn1 t) (h : ∀ j, j < k → p1 t j = true) (hc : (k < tn1 t → p1 t k = false)) (hz : k = tn1 t → ¬ (tn1 t = 0 ∨ tn1 t % 4 = 3)) : ft1 t = nI k ∧ t_m t = 0 := by
  have e : ffi (p1 t) (tn1 t) = k := ffi_uniq hk h hc
  have no : ¬ (k = tn1 t ∧ (tn1 t = 0 ∨ tn1 t % 4 = 3)) := fun z => hz z.1 z.2
  unfold ft1 t_m
  rw [e, if_neg no, if_neg no]
  exact ⟨rfl, rfl⟩
set_option maxHeartbeats 4000000 in
theorem ft1_good {t : Td} (h : ∀ j, j < tn1 t → p1 t j = true) (hz : tn1 t = 0 ∨ tn1 t % 4 = 3) : ft1 t = -1 ∧ t_m t = (tn1 t + 1) / 4 := by
  have e : ffi (p1 t) (tn1 t) = tn1 t := ffi_uniq (Nat.le_refl _) h (fun q => by omega)
  unfold ft1 t_m
  rw [e, if_pos ⟨rfl, hz⟩, if_pos ⟨rfl, hz⟩]
  exact ⟨rfl, rfl⟩
set_option maxHeartbeats 4000000 in
theorem p1_up {t : Td} {i r : Nat} (hr : r ≤ 4) (h : ∀ j, j < 4 * i → p1 t j = true) (g : ∀ j, j < r → can (tf1 t (4 * i + j)) j = true) : ∀ j, j < 4 * i + r → p1 t j = true := by
  intro j hj
  rcases Nat.lt_or_ge j (4 * i) with c | c
  · exact h j c
  · have g2 := g (j - 4 * i) (by omega)
    unfold p1
    rw [show j % 4 = j - 4 * i by omega]
    rw [show 4 * i + (j - 4 * i) = j by omega] at g2
    exact g2
set_option maxHeartbeats 4000000 in
theorem l7_readsMembers {t : Td} {s : xSt} {Q : Int32 → xSt → Prop} (hT : VT t) (hX : X7 t s) (hq : ∀ s', MM t (t_m t) s' → xI s' 13 4 = nI (t_m t) → xk k7m s s' → Q (ft1 t) s') : d7_readsMembers s Q := by
  have hn := hT.2.1
  unfold d7_readsMembers
  intro s1 e1
  have k1 : xk k7m s s1 := by subst e1; exact xk.rf.sI rfl
  have f1 : xI s1 13 4 = nI 0 := by subst e1; exact xI_xsI_eq _ _ _ _
  clear e1
  refine lp0 (fun n i s2 => d7_readsMembers_L9 (fun s29 => Q (-1) s29) Q n (nI i) (nI (4 * i)) s2) (fun i s2 => 4 * i ≤ tn1 t ∧ (∀ j, j < 4 * i → p1 t j = true) ∧ MM t i s2 ∧ xI s2 13 4 = nI 0 ∧ xk k7m s s2) 8 (by omega) ?_ ?_ s1 ⟨by omega, fun _ q => by omega, ⟨fun _ q => by omega, fun _ q => by omega, fun _ q => by omega⟩, f1, k1⟩
  · intro n s2 ⟨h1, _⟩
    omega
  intro n i s2 hi ⟨h1, h2, h3, h4, h5⟩ ih
  have x2 := hX.keep h5 rfl rfl
  have body : (tn1 t = 0 → 0 < i) → d7_readsMember (nI i) (nI (4 * i)) s2 (fun v18 s17 => (3 ≤ v18 → ∀ v20 : Int32, v20 = nI i + 1 → ∀ v21 : Int32, v21 = nI (4 * i) + 3 → vp_in 1 2 ∧ (¬ v21 = (xA s17 13 0 (1 : Int32).toNatClampNeg) → d7_byteAt v21 s17 (fun v25 s24 => (v25 = 59 → ∀ v27 : Int32, v27 = v21 + 1 → d7_readsMembers_L9 (fun s29 => Q (-1) s29) Q n v20 v27 s24) ∧ (¬ v25 = 59 → Q v21 s24))) ∧ (v21 = (xA s17 13 0 (1 : Int32).toNatClampNeg) → ∀ s28 : xSt, s28 = xsI s17 13 4 v20 → Q (-1) s28)) ∧ (¬ 3 ≤ v18 → Q (nI (4 * i) + v18) s17)) := by
    intro hz
    refine l7_readsMember x2 hT hi h3 (fun r hr g1 g2 => br_f (nle (a := 3) hr (by omega)) ?_) (fun g s' m' q' k' => br_t (by decide) ?_)
    · have le : 4 * i + r ≤ tn1 t := by
        rcases Nat.eq_zero_or_pos r with z | z
        · omega
        · have := (g1 (r - 1) (by omega)).1
          omega
      have b := ft1_bad (k := 4 * i + r) le (p1_up (by omega) h2 (fun j q => (g1 j q).2)) (fun q => by
        unfold p1
        rw [show (4 * i + r) % 4 = r by omega]
        exact g2 q) (fun e z => by omega)
      rw [nI_add, ← b.1]
      refine hq s2 ?_ (by rw [b.2]; exact h4) h5
      rw [b.2]
      exact ⟨fun _ q => by omega, fun _ q => by omega, fun _ q => by omega⟩
    · intro v20 e20 v21 e21
      rw [nI_1] at e20
      rw [l_3, nI_add] at e21
      have x' := x2.keep k' rfl rfl
      have ups := p1_up (r := 3) (by omega) h2 (fun j q => (g j q).2)
      have lt := (g 2 (by omega)).1
      subst e20 e21
      rw [z1, x'.2.2.1]
      refine ⟨v12, ?_⟩
      by_cases c : 4 * i + 3 = tn1 t
      · refine bn_t (by rw [c]) ?_
        intro s28 e28
        have b := ft1_good (t := t) (by rw [← c]; exact ups) (by omega)
        have em : t_m t = i + 1 := by rw [b.2]; omega
        subst e28
        rw [← b.1]
        refine hq _ ?_ (by rw [xI_xsI_eq, em]) ((h5.tr k').sI rfl)
        rw [em]; exact m'
      · refine bn_f (nne c (by omega) (by omega)) (l7_byteAt x' hT (by omega) (fun a => ⟨fun d => ?_, fun d => ?_⟩) (fun a => by omega))
        · intro v27 e27
          rw [nI_1] at e27
          subst e27
          refine ih s' ⟨by omega, p1_up (r := 4) (by omega) h2 (fun j q => ?_), m', by rw [q']; exact h4, h5.tr k'⟩
          rcases (show j < 3 ∨ j = 3 by omega) with e | e
          · exact (g j e).2
          · subst e; exact can3_iff.mpr d
        · have b := ft1_bad (k := 4 * i + 3) (by omega) ups (fun _ => by
            unfold p1
            rw [show (4 * i + 3) % 4 = 3 by omega, Bool.eq_false_iff]
            exact fun w => d (can3_iff.mp w)) (fun e z => by omega)
          rw [← b.1]
          refine hq s' ?_ (by rw [q', b.2]; exact h4) (h5.tr k')
          rw [b.2]
          exact ⟨fun _ q => by omega, fun _ q => by omega, fun _ q => by omega⟩
  rw [d7_readsMembers_L9, z1, x2.2.2.1]
  refine ⟨v12, fun a => ?_, fun a => ⟨fun b => ?_, fun b => ?_⟩⟩
  · have lt : 4 * i < tn1 t := by
      rcases Nat.lt_or_ge (4 * i) (tn1 t) with z | z
      · exact z
      · exact absurd a (nlt z (by omega))
    exact body (fun z => by omega)
  · have z : i = 0 := by
      rcases Nat.eq_zero_or_pos i with z | z
      · exact z
      · exact absurd b (nI_nle (by omega) (by omega))
    subst z
    have z2 : tn1 t = 0 := by
      rcases Nat.eq_zero_or_pos (tn1 t) with z | z
      · exact z
      · exact absurd (nI_lt (a := 4 * 0) (by omega) (by omega)) a
    have b := ft1_good (t := t) (fun j q => by omega) (Or.inl z2)
    have em : t_m t = 0 := by rw [b.2, z2]
    rw [← b.1]
    refine hq s2 ?_ (by rw [em]; exact h4) h5
    rw [em]; exact h3
  · refine body (fun z => ?_)
    rcases Nat.eq_zero_or_pos i with y | y
    · subst y; exact absurd (Int32.le_refl 0) b
    · exact y
