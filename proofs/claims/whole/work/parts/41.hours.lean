-- hours: what the records say
def ay (b : Bl) (h : Nat) : Nat := s_ayes b h (s_run b (h + 1))
def no (b : Bl) (h : Nat) : Nat := s_noes b h (s_run b (h + 1))
def ca (b : Bl) (h : Nat) : Bool := decide (no b h < ay b h)
set_option maxHeartbeats 4000000 in
theorem it_le {f : Nat → Nat → Nat} (h : ∀ k n, f k n ≤ n + 1) : ∀ n, it f n 0 ≤ n := by
  intro n
  induction n with
  | zero => exact Nat.le_refl 0
  | succ n ih =>
    rw [it_succ]
    have := h n (it f n 0)
    omega
set_option maxHeartbeats 4000000 in
theorem ay_le {b : Bl} (hb : VB b) (h : Nat) : ay b h ≤ 8 := Nat.le_trans (it_le (fun k n => by split; omega; split <;> omega) _) hb.1
set_option maxHeartbeats 4000000 in
theorem no_le {b : Bl} (hb : VB b) (h : Nat) : no b h ≤ 8 := Nat.le_trans (it_le (fun k n => by split; omega; split <;> omega) _) hb.1
set_option maxHeartbeats 4000000 in
theorem l2_carries {c h : Nat} {b : Bl} {s : xSt} {Q : Int32 → xSt → Prop} (hb : VB b) (n2 : N2 c b 20 s) (hh : h < 20) (hq : Q (if ca b h = true then 1 else 0) s) : d2_carries c (nI h) s Q := by
  have x := n2.2 h hh
  have g1 := ay_le hb h
  have g2 := no_le hb h
  unfold d2_carries
  refine l6_isHour hh (br_f (by decide) ⟨nin hh (by omega), nin hh (by omega), ?_⟩)
  rw [ncl (by omega), x.2.2.2.2.2.2.1, x.2.2.2.2.2.2.2]
  show (nI (ay b h) ≤ nI (no b h) → _) ∧ (¬ nI (ay b h) ≤ nI (no b h) → _)
  by_cases q : no b h < ay b h
  · rw [show ca b h = true from decide_eq_true q] at hq
    exact br_f (nle q (by omega)) hq
  · rw [show ca b h = false from decide_eq_false q] at hq
    exact br_t (nI_le (by omega) (by omega)) hq
set_option maxHeartbeats 4000000 in
theorem l7_isCarried {h : Nat} {b : Bl} {s : xSt} {Q : Int32 → xSt → Prop} (hb : VB b) (n7 : N7 b s) (hh : h < 20) (hq : Q (if ca b h = true then 1 else 0) s) : d7_isCarried (nI h) s Q := by
  have x := n7.2 h hh
  have g1 := ay_le hb h
  have g2 := no_le hb h
  unfold d7_isCarried
  rw [ncl (by omega), x.2.2.2.2.2.1, x.2.2.2.2.2.2]
  refine ⟨nin hh (by omega), nin hh (by omega), ?_⟩
  show (nI (ay b h) ≤ nI (no b h) → _) ∧ (¬ nI (ay b h) ≤ nI (no b h) → _)
  by_cases q : no b h < ay b h
  · rw [show ca b h = true from decide_eq_true q] at hq
    exact br_f (nle q (by omega)) hq
  · rw [show ca b h = false from decide_eq_false q] at hq
    exact br_t (nI_le (by omega) (by omega)) hq
/-- how many carry in the first hours -/
def carN (b : Bl) : Nat → Nat := fun n => it (fun h n => if ca b h = true then n + 1 else n) n 0
def govN (b : Bl) : Nat → Nat := fun n => it (fun h n => if ca b (h + 1) = ca b h then n else n + 1) n 0
set_option maxHeartbeats 4000000 in
theorem carN_le (b : Bl) (n : Nat) : carN b n ≤ n := it_le (fun k n => by split <;> omega) n
set_option maxHeartbeats 4000000 in
theorem govN_le (b : Bl) (n : Nat) : govN b n ≤ n := it_le (fun k n => by split <;> omega) n
set_option maxHeartbeats 4000000 in
theorem carN_s (b : Bl) (n : Nat) : carN b (n + 1) = if ca b n = true then carN b n + 1 else carN b n := rfl
set_option maxHeartbeats 4000000 in
theorem govN_s (b : Bl) (n : Nat) : govN b (n + 1) = if ca b (n + 1) = ca b n then govN b n else govN b n + 1 := rfl
set_option maxHeartbeats 4000000 in
theorem l2_carriedInAll {c : Nat} {b : Bl} {s : xSt} {Q : Int32 → xSt → Prop} (hb : VB b) (n2 : N2 c b 20 s) (hq : Q (nI (carN b 20)) s) : d2_carriedInAll c s Q := by
  unfold d2_carriedInAll
  refine lp0 (fun n i (_ : Unit) => d2_carriedInAll_L4 c (fun v11 s10 => Q v11 s10) Q n (nI (carN b i)) (nI i) s) (fun _ _ => True) 20 (by omega) ?_ ?_ () trivial
  · intro n _ _
    rw [d2_carriedInAll_L4]
    exact br_t (Int32.le_refl _) hq
  · intro n i _ hi _ ih
    rw [d2_carriedInAll_L4]
    refine br_f (nle (a := 20) hi (by omega)) (l2_carries hb n2 hi ?_)
    have ih := ih () trivial
    rw [carN_s] at ih
    unfold jn
    cases q : ca b i
    · rw [q] at ih
      refine br_t rfl ?_
      intro v7 e7 v8 e8
      rw [show nI (carN b i) + (0 : Int32) = nI (carN b i) from Int32.add_zero _] at e7
      rw [nI_1] at e8
      subst e7 e8
      exact ih
    · rw [q] at ih
      refine br_f (by decide) ?_
      intro v7 e7 v8 e8
      rw [nI_1] at e7 e8
      subst e7 e8
      exact ih
set_option maxHeartbeats 4000000 in
theorem l7_carriedNow {b : Bl} {s : xSt} {Q : Int32 → xSt → Prop} (hb : VB b) (n7 : N7 b s) (hq : Q (nI (carN b 20)) s) : d7_carriedNow s Q := by
  unfold d7_carriedNow
  refine lp0 (fun n i (_ : Unit) => d7_carriedNow_L4 (fun v11 s10 => Q v11 s10) Q n (nI (carN b i)) (nI i) s) (fun _ _ => True) 20 (by omega) ?_ ?_ () trivial
  · intro n _ _
    rw [d7_carriedNow_L4]
    exact br_t (Int32.le_refl _) hq
  · intro n i _ hi _ ih
    rw [d7_carriedNow_L4]
    refine br_f (nle (a := 20) hi (by omega)) (l7_isCarried hb n7 hi ?_)
    have ih := ih () trivial
    rw [carN_s] at ih
    unfold jn
    cases q : ca b i
    · rw [q] at ih
      refine br_t rfl ?_
      intro v7 e7 v8 e8
      rw [show nI (carN b i) + (0 : Int32) = nI (carN b i) from Int32.add_zero _] at e7
      rw [nI_1] at e8
      subst e7 e8
      exact ih
    · rw [q] at ih
      refine br_f (by decide) ?_
      intro v7 e7 v8 e8
      rw [nI_1] at e7 e8
      subst e7 e8
      exact ih
set_option maxHeartbeats 4000000 in
theorem b2i (x y : Bool) : ((if x = true then (1 : Int32) else 0) = (if y = true then 1 else 0)) ↔ x = y := by cases x <;> cases y <;> decide
set_option maxHeartbeats 4000000 in
theorem l2_governmentsInAll {c : Nat} {b : Bl} {s : xSt} {Q : Int32 → xSt → Prop} (hb : VB b) (n2 : N2 c b 20 s) (hq : Q (nI (govN b 19)) s) : d2_governmentsInAll c s Q := by
  unfold d2_governmentsInAll
  refine lp0 (fun n i (_ : Unit) => d2_governmentsInAll_L4 c (fun v11 s10 => Q v11 s10) Q n (nI (govN b i)) (nI (i + 1)) s) (fun _ _ => True) 19 (by omega) ?_ ?_ () trivial
  · intro n _ _
    rw [d2_governmentsInAll_L4]
    exact br_t (Int32.le_refl _) hq
  · intro n i _ hi _ ih
    rw [d2_governmentsInAll_L4, nI_pred]
    refine br_f (nle (a := 20) (b := i + 1) (by omega) (by omega)) (l2_carries hb n2 (h := i + 1) (by omega) (l2_carries hb n2 (by omega) ?_))
    have ih := ih () trivial
    rw [govN_s] at ih
    unfold jn
    refine ⟨fun q => ?_, fun q => ?_⟩
    · rw [b2i] at q
      rw [if_pos q] at ih
      intro v7 e7 v8 e8
      rw [show nI (govN b i) + (0 : Int32) = nI (govN b i) from Int32.add_zero _] at e7
      rw [nI_1] at e8
      subst e7 e8
      exact ih
    · rw [b2i] at q
      rw [if_neg q] at ih
      intro v7 e7 v8 e8
      rw [nI_1] at e7 e8
      subst e7 e8
      exact ih
set_option maxHeartbeats 4000000 in
theorem l7_governmentsNow {b : Bl} {s : xSt} {Q : Int32 → xSt → Prop} (hb : VB b) (n7 : N7 b s) (hq : Q (nI (govN b 19)) s) : d7_governmentsNow s Q := by
  unfold d7_governmentsNow
  refine lp0 (fun n i (_ : Unit) => d7_governmentsNow_L4 (fun v11 s10 => Q v11 s10) Q n (nI (govN b i)) (nI (i + 1)) s) (fun _ _ => True) 19 (by omega) ?_ ?_ () trivial
  · intro n _ _
    rw [d7_governmentsNow_L4]
    exact br_t (Int32.le_refl _) hq
  · intro n i _ hi _ ih
    rw [d7_governmentsNow_L4, nI_pred]
    refine br_f (nle (a := 20) (b := i + 1) (by omega) (by omega)) (l7_isCarried hb n7 (h := i + 1) (by omega) (l7_isCarried hb n7 (by omega) ?_))
    have ih := ih () trivial
    rw [govN_s] at ih
    unfold jn
    refine ⟨fun q => ?_, fun q => ?_⟩
    · rw [b2i] at q
      rw [if_pos q] at ih
      intro v7 e7 v8 e8
      rw [show nI (govN b i) + (0 : Int32) = nI (govN b i) from Int32.add_zero _] at e7
      rw [nI_1] at e8
      subst e7 e8
      exact ih
    · rw [b2i] at q
      rw [if_neg q] at ih
      intro v7 e7 v8 e8
      rw [nI_1] at e7 e8
      subst e7 e8
      exact ih
set_option maxHeartbeats 4000000 in
theorem kA5_R {s s1 : xSt} (h : xk kA5 s s1) : xk kR s s1 := h.mono (fun t o k q => by
  simp only [kA5, kR, Bool.and_eq_true, Bool.not_eq_true', Bool.and_eq_false_iff, beq_eq_false_iff_ne, beq_iff_eq] at q ⊢
  omega)
set_option maxHeartbeats 4000000 in
theorem q_governments {σ : xSt} (h : RR σ) : d6_governments σ (fun r s1 => d7_governments s1 (fun r' s2 => r = r' ∧ RR s2)) := by
  obtain ⟨t, hT, hC, hM⟩ := h
  refine both (D6 := d6_governments) (D7 := d7_governments) hM hT (fun Q hq => l6_chamberAsTold hT hC fun s' p n k => l2_governmentsInAll (VB_bt hT) n (hq s' p (kA5_R k))) fun s1 Q p hq => ?_
  unfold d7_governments d7_governmentsOf
  exact l7_runsTold hT p fun s' n _ p' k => l7_governmentsNow (VB_bt hT) n (hq s' p' k)
set_option maxHeartbeats 4000000 in
theorem q_carried {σ : xSt} (h : RR σ) : d6_carried σ (fun r s1 => d7_carried s1 (fun r' s2 => r = r' ∧ RR s2)) := by
  obtain ⟨t, hT, hC, hM⟩ := h
  refine both (D6 := d6_carried) (D7 := d7_carried) hM hT (fun Q hq => l6_chamberAsTold hT hC fun s' p n k => l2_carriedInAll (VB_bt hT) n (hq s' p (kA5_R k))) fun s1 Q p hq => ?_
  unfold d7_carried d7_carriedOf
  exact l7_runsTold hT p fun s' n _ p' k => l7_carriedNow (VB_bt hT) n (hq s' p' k)
set_option maxHeartbeats 4000000 in
theorem q_still {σ : xSt} (h : RR σ) : d6_still σ (fun r s1 => d7_still s1 (fun r' s2 => r = r' ∧ RR s2)) := by
  obtain ⟨t, hT, hC, hM⟩ := h
  refine both (D6 := d6_still) (D7 := d7_still) (a := ((1 <<< (nI (t_m t) &&& 31)) - 1) &&& ((wt (s_run (bt t) 20)) ^^^ (-1))) hM hT (fun Q hq => l6_chamberAsTold hT hC fun s' p n k => ?_) fun s1 Q p hq => ?_
  · unfold d2_stillMembers
    rw [n.1.1, n.1.2.2.2.2.2.2.2]; exact hq s' p (kA5_R k)
  · unfold d7_still d7_stillOf
    refine l7_runsTold hT p fun s' n _ p' k => ?_
    rw [n.1.1, n.1.2.2.2.2.2.2.2]; exact hq s' p' k
set_option maxHeartbeats 4000000 in
theorem q_house {a w : Int32} {σ : xSt} (h : RR σ) : d6_house a w σ (fun r s1 => d7_house a w s1 (fun r' s2 => r = r' ∧ RR s2)) := by
  obtain ⟨t, hT, hC, hM⟩ := h
  by_cases c : ∃ j, j < 20 ∧ a = nI j
  rotate_left
  · exact same (D6 := d6_house a w) (D7 := d7_house a w) hT hC hM (a := -2) (fun Q q => l6_hourB c (br_t rfl q)) (fun Q q => l7_hourB c (br_t rfl q))
  obtain ⟨j, hj, e⟩ := c
  subst e
  by_cases d : ∃ i, i < 3 ∧ w = nI i
  rotate_left
  · exact same (D6 := d6_house (nI j) w) (D7 := d7_house (nI j) w) hT hC hM (a := -2) (fun Q q => l6_isHour hj (br_f (by decide) ⟨fun _ => q, fun z => br_f (w_lt0 (n := 2) d (by omega) z) q⟩)) (fun Q q => l7_hourG hj (br_f (by decide) (l7_inB (n := 2) (by omega) rfl d (br_t rfl q))))
  obtain ⟨i, hi, e⟩ := d
  subst e
  refine both (D6 := d6_house (nI j) (nI i)) (D7 := d7_house (nI j) (nI i)) (a := if i = 0 then nI (ay (bt t) j) else if i = 1 then nI (no (bt t) j) else if ca (bt t) j = true then 1 else 0) hM hT (fun Q hq => ?_) fun s1 Q p hq => ?_
  · refine l6_isHour hj (br_f (by decide) (br_f (nI_pos (by omega)) (br_t (nI_le (b := 2) (by omega) (by omega)) (l6_chamberAsTold hT hC fun s' p n k => ?_))))
    have q := hq s' p (kA5_R k)
    have x := n.2 j hj
    refine w_case hi ⟨fun a => ⟨fun b' => l2_carries (VB_bt hT) n hj ?_, fun b' => ?_⟩, fun a => ?_⟩
    · rw [if_neg a, if_neg b'] at q
      cases z : ca (bt t) j
      · rw [z] at q; exact br_t rfl q
      · rw [z] at q; exact br_f (by decide) q
    · rw [if_neg a, if_pos b'] at q
      refine l6_isHour hj (br_f (by decide) ⟨nin hj (by omega), ?_⟩)
      rw [ncl (by omega), x.2.2.2.2.2.2.2]; exact q
    · rw [if_pos a] at q
      refine l6_isHour hj (br_f (by decide) ⟨nin hj (by omega), ?_⟩)
      rw [ncl (by omega), x.2.2.2.2.2.2.1]; exact q
  · refine l7_hourG hj (br_f (by decide) (l7_inG (n := 2) (by omega) rfl hi (br_f (by decide) ?_)))
    unfold d7_houseOf
    refine l7_runsTold hT p fun s' n _ p' k => ?_
    have q := hq s' p' k
    have x := n.2 j hj
    refine w_case hi ⟨fun a => ⟨fun b' => l7_isCarried (VB_bt hT) n hj ?_, fun b' => ⟨nin hj (by omega), ?_⟩⟩, fun a => ⟨nin hj (by omega), ?_⟩⟩
    · rw [if_neg a, if_neg b'] at q
      cases z : ca (bt t) j
      · rw [z] at q; exact br_t rfl q
      · rw [z] at q; exact br_f (by decide) q
    · rw [if_neg a, if_pos b'] at q
      rw [ncl (by omega), x.2.2.2.2.2.2]; exact q
    · rw [if_pos a] at q
      rw [ncl (by omega), x.2.2.2.2.2.1]; exact q
