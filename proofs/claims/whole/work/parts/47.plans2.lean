set_option maxHeartbeats 4000000 in
theorem cand {f : Nat → Nat} {i : Nat} {K : Int32 → Int32 → Prop} (h : K (bst f (i + 1)).1 (bst f (i + 1)).2) : (nI (f i) ≤ (bst f i).2 → K (bst f i).1 (bst f i).2) ∧ (¬ nI (f i) ≤ (bst f i).2 → K (nI i) (nI (f i))) := by
  rw [bst_s] at h
  refine ⟨fun q => ?_, fun q => ?_⟩
  · rw [if_pos q] at h; exact h
  · rw [if_neg q] at h; exact h
-- dust
def dsF (t : Td) (h p : Nat) : Nat := carN (b_e (bt t) (1, h, p)) 20
set_option maxHeartbeats 4000000 in
theorem l6_findDust {t : Td} {h : Nat} {s : xSt} {Q : xSt → Prop} (hT : VT t) (hC : PC t s) (hh : h < 20) (hq : ∀ s', BB (dsF t h) 12 s' → xk kX s s' → Q s') : d6_findDust (nI h) s Q := by
  unfold d6_findDust
  refine l0_start fun s1 g0 g1 k1 => ?_
  refine lp0 (fun n i s2 => d6_findDust_L9 (nI h) (fun s8 => Q s8) Q n (nI i) s2) (fun i s2 => BB (dsF t h) i s2 ∧ xk kX s s2) 12 (by omega) ?_ ?_ s1 ⟨⟨g0, g1⟩, k8_X k1⟩
  · intro n s2 ⟨h1, h2⟩
    rw [d6_findDust_L9]
    exact br_t (Int32.le_refl _) (hq s2 h1 h2)
  · intro n i s2 hi ⟨h1, h2⟩ ih
    rw [d6_findDust_L9]
    have hv : (1, h, i).1 < 4 ∧ (1, h, i).2.1 < 20 ∧ (1, h, i).2.2 < 12 := ⟨by show 1 < 4; omega, hh, hi⟩
    refine br_f (nle (a := 12) hi (by omega)) (l6_sitMore (v := (1, h, i)) hT (hC.stX h2).1 hv rfl rfl rfl fun s3 n3 k3 e3 => ?_)
    refine l2_carriedInAll (VB_e (VB_bt hT) hv) n3 ?_
    refine BB_offer (f := dsF t h) ⟨e3.1.trans h1.1, e3.2.trans h1.2⟩ fun s6 b6 k6 => ?_
    intro v7 e7
    rw [nI_1] at e7
    subst e7
    exact ih s6 ⟨b6, (h2.tr k3).tr (k8_X k6)⟩
set_option maxHeartbeats 4000000 in
theorem l7_dustL {t : Td} {h : Nat} {a2 : Int32} {s : xSt} {Q : Int32 → xSt → Prop} {K : Int32 → Int32 → xSt → Prop} (hT : VT t) (hh : h < 20) (hM : PM t s) (hB : B7 (bt t) s) (hE : E7x t s) (hq : ∀ s', PM t s' → xk kS s s' → K (bst (dsF t h) 12).1 (bst (dsF t h) 12).2 s') : d7_dustOf_L12 (nI h) a2 K Q x_lim (-1) (-1) 0 s := by
  refine lp0 (fun n i s2 => d7_dustOf_L12 (nI h) a2 K Q n (bst (dsF t h) i).1 (bst (dsF t h) i).2 (nI i) s2) (fun i s2 => PM t s2 ∧ B7 (bt t) s2 ∧ E7x t s2 ∧ xk kS s s2) 12 (by omega) ?_ ?_ s ⟨hM, hB, hE, xk.rf⟩
  · intro n s2 ⟨h1, h2, h3, h4⟩
    rw [d7_dustOf_L12]
    exact br_t (Int32.le_refl _) (hq s2 h1 h4)
  · intro n i s2 hi ⟨h1, h2, h3, h4⟩ ih
    rw [d7_dustOf_L12]
    have hv : (1, h, i).1 < 4 ∧ (1, h, i).2.1 < 20 ∧ (1, h, i).2.2 < 12 := ⟨by show 1 < 4; omega, hh, hi⟩
    refine br_f (nle (a := 12) hi (by omega)) (l7_moreE (v := (1, h, i)) hT h1 h2 h3 hv rfl rfl rfl fun s3 n3 p3 b3 x3 k3 => ?_)
    refine l7_carriedNow (VB_e (VB_bt hT) hv) n3 ?_
    have c := cand (f := dsF t h) (i := i) (K := fun x y => ∀ v : Int32, v = nI i + 1 → d7_dustOf_L12 (nI h) a2 K Q n x y v s3) (fun v e => by
      rw [nI_1] at e; subst e
      exact ih s3 ⟨p3, b3, x3, h4.tr k3⟩)
    unfold jn
    by_cases q : nI (dsF t h i) ≤ (bst (dsF t h) i).2
    · exact br_t q (br_t q (c.1 q))
    · exact br_f q (br_f q (c.2 q))
set_option maxHeartbeats 4000000 in
theorem E7t.x {t : Td} {s : xSt} (h : E7t t s) : E7x t s := ⟨h.2.1, h.2.2⟩
set_option maxHeartbeats 4000000 in
theorem q_dust {a w : Int32} {σ : xSt} (h : RR σ) : d6_dust a w σ (fun r s1 => d7_dust a w s1 (fun r' s2 => r = r' ∧ RR s2)) := by
  obtain ⟨t, hT, hC, hM⟩ := h
  by_cases c : ∃ j, j < 20 ∧ a = nI j
  rotate_left
  · exact same (D6 := d6_dust a w) (D7 := d7_dust a w) hT hC hM (a := -2) (fun Q q => l6_hourB c (br_t rfl q)) (fun Q q => l7_hourB c (br_t rfl q))
  obtain ⟨j, hj, e⟩ := c
  subst e
  by_cases d : ∃ i, i < 2 ∧ w = nI i
  rotate_left
  · exact same (D6 := d6_dust (nI j) w) (D7 := d7_dust (nI j) w) hT hC hM (a := -2) (fun Q q => l6_isHour hj (br_f (by decide) ⟨fun _ => q, fun z => br_f (w_lt0 (n := 1) d (by omega) z) q⟩)) (fun Q q => l7_hourG hj (br_f (by decide) (l7_inB (n := 1) (by omega) rfl d (br_t rfl q))))
  obtain ⟨i, hi, e⟩ := d
  subst e
  have e0 : nI i = 0 ↔ i = 0 := nI_eq (b := 0) (by omega) (by omega)
  refine both (D6 := d6_dust (nI j) (nI i)) (D7 := d7_dust (nI j) (nI i)) (a := if i = 0 then (bst (dsF t j) 12).1 else (bst (dsF t j) 12).2) hM hT (fun Q hq => ?_) fun s1 Q p hq => ?_
  · refine l6_isHour hj (br_f (by decide) (br_f (nI_pos (by omega)) (br_t (nI_le (b := 1) (by omega) (by omega)) (l6_findDust hT hC hj fun s' b k => ?_))))
    have q := hq s' (hC.stX k) (kX_R k)
    rw [e0, b.1, b.2]
    refine ⟨fun a => ?_, fun a => ?_⟩
    · rw [if_neg a] at q; exact q
    · rw [if_pos a] at q; exact q
  · refine l7_hourG hj (br_f (by decide) (l7_inG (n := 1) (by omega) rfl hi (br_f (by decide) ?_)))
    unfold d7_dustOf
    refine l7_asTold hT p fun s2 b2 e2 _ p2 k2 => l7_dustL hT hj p2 b2 e2.x fun s' p' k' => ?_
    have q := hq s' p' ((kT7_S k2).tr k')
    rw [e0]
    refine ⟨fun a => ?_, fun a => ?_⟩
    · rw [if_neg a] at q; exact q
    · rw [if_pos a] at q; exact q
-- boy
def byF (t : Td) (h : Nat) : Nat := govN (b_e (bt t) (0, h, 0)) 19
set_option maxHeartbeats 4000000 in
theorem l6_findBoy {t : Td} {s : xSt} {Q : xSt → Prop} (hT : VT t) (hC : PC t s) (hq : ∀ s', BB (byF t) 20 s' → xk kX s s' → Q s') : d6_findBoy s Q := by
  unfold d6_findBoy
  refine l0_start fun s1 g0 g1 k1 => ?_
  refine lp0 (fun n i s2 => d6_findBoy_L9 (fun s8 => Q s8) Q n (nI i) s2) (fun i s2 => BB (byF t) i s2 ∧ xk kX s s2) 20 (by omega) ?_ ?_ s1 ⟨⟨g0, g1⟩, k8_X k1⟩
  · intro n s2 ⟨h1, h2⟩
    rw [d6_findBoy_L9]
    exact br_t (Int32.le_refl _) (hq s2 h1 h2)
  · intro n i s2 hi ⟨h1, h2⟩ ih
    rw [d6_findBoy_L9]
    have hv : (0, i, 0).1 < 4 ∧ (0, i, 0).2.1 < 20 ∧ (0, i, 0).2.2 < 12 := ⟨by show 0 < 4; omega, hi, by show 0 < 12; omega⟩
    refine br_f (nle (a := 20) hi (by omega)) (l6_sitMore (v := (0, i, 0)) hT (hC.stX h2).1 hv rfl rfl rfl fun s3 n3 k3 e3 => ?_)
    refine l2_governmentsInAll (VB_e (VB_bt hT) hv) n3 ?_
    refine BB_offer (f := byF t) ⟨e3.1.trans h1.1, e3.2.trans h1.2⟩ fun s6 b6 k6 => ?_
    intro v7 e7
    rw [nI_1] at e7
    subst e7
    exact ih s6 ⟨b6, (h2.tr k3).tr (k8_X k6)⟩
set_option maxHeartbeats 4000000 in
theorem l7_boyL {t : Td} {a2 : Int32} {s : xSt} {Q : Int32 → xSt → Prop} {K : Int32 → Int32 → xSt → Prop} (hT : VT t) (hM : PM t s) (hB : B7 (bt t) s) (hE : E7x t s) (hq : ∀ s', PM t s' → xk kS s s' → K (bst (byF t) 20).1 (bst (byF t) 20).2 s') : d7_boyOf_L11 a2 K Q x_lim (-1) (-1) 0 s := by
  refine lp0 (fun n i s2 => d7_boyOf_L11 a2 K Q n (bst (byF t) i).1 (bst (byF t) i).2 (nI i) s2) (fun i s2 => PM t s2 ∧ B7 (bt t) s2 ∧ E7x t s2 ∧ xk kS s s2) 20 (by omega) ?_ ?_ s ⟨hM, hB, hE, xk.rf⟩
  · intro n s2 ⟨h1, h2, h3, h4⟩
    rw [d7_boyOf_L11]
    exact br_t (Int32.le_refl _) (hq s2 h1 h4)
  · intro n i s2 hi ⟨h1, h2, h3, h4⟩ ih
    rw [d7_boyOf_L11]
    have hv : (0, i, 0).1 < 4 ∧ (0, i, 0).2.1 < 20 ∧ (0, i, 0).2.2 < 12 := ⟨by show 0 < 4; omega, hi, by show 0 < 12; omega⟩
    refine br_f (nle (a := 20) hi (by omega)) (l7_moreE (v := (0, i, 0)) hT h1 h2 h3 hv rfl rfl rfl fun s3 n3 p3 b3 x3 k3 => ?_)
    refine l7_governmentsNow (VB_e (VB_bt hT) hv) n3 ?_
    have c := cand (f := byF t) (i := i) (K := fun x y => ∀ v : Int32, v = nI i + 1 → d7_boyOf_L11 a2 K Q n x y v s3) (fun v e => by
      rw [nI_1] at e; subst e
      exact ih s3 ⟨p3, b3, x3, h4.tr k3⟩)
    unfold jn
    by_cases q : nI (byF t i) ≤ (bst (byF t) i).2
    · exact br_t q (br_t q (c.1 q))
    · exact br_f q (br_f q (c.2 q))
set_option maxHeartbeats 4000000 in
theorem q_boy {w : Int32} {σ : xSt} (h : RR σ) : d6_boy w σ (fun r s1 => d7_boy w s1 (fun r' s2 => r = r' ∧ RR s2)) := by
  obtain ⟨t, hT, hC, hM⟩ := h
  by_cases d : ∃ i, i < 2 ∧ w = nI i
  rotate_left
  · exact same (D6 := d6_boy w) (D7 := d7_boy w) hT hC hM (a := -2) (fun Q q => ⟨fun _ => q, fun z => br_f (w_lt0 (n := 1) d (by omega) z) q⟩) (fun Q q => l7_inB (n := 1) (by omega) rfl d (br_t rfl q))
  obtain ⟨i, hi, e⟩ := d
  subst e
  have e0 : nI i = 0 ↔ i = 0 := nI_eq (b := 0) (by omega) (by omega)
  refine both (D6 := d6_boy (nI i)) (D7 := d7_boy (nI i)) (a := if i = 0 then (bst (byF t) 20).1 else (bst (byF t) 20).2) hM hT (fun Q hq => ?_) fun s1 Q p hq => ?_
  · refine br_f (nI_pos (by omega)) (br_t (nI_le (b := 1) (by omega) (by omega)) (l6_findBoy hT hC fun s' b k => ?_))
    have q := hq s' (hC.stX k) (kX_R k)
    rw [e0, b.1, b.2]
    refine ⟨fun a => ?_, fun a => ?_⟩
    · rw [if_neg a] at q; exact q
    · rw [if_pos a] at q; exact q
  · refine l7_inG (n := 1) (by omega) rfl hi (br_f (by decide) ?_)
    unfold d7_boyOf
    refine l7_asTold hT p fun s2 b2 e2 _ p2 k2 => l7_boyL hT p2 b2 e2.x fun s' p' k' => ?_
    have q := hq s' p' ((kT7_S k2).tr k')
    rw [e0]
    refine ⟨fun a => ?_, fun a => ?_⟩
    · rw [if_neg a] at q; exact q
    · rw [if_pos a] at q; exact q
