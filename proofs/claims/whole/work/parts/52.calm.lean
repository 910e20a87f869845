-- calm
def ff (P : Nat → Bool) : Nat → Option Nat
  | 0 => none
  | n + 1 => match ff P n with
    | some a => some a
    | none => if P n = true then some n else none
set_option maxHeartbeats 4000000 in
theorem ff_none {P : Nat → Bool} : ∀ n, (∀ j, j < n → P j = false) → ff P n = none := by
  intro n
  induction n with
  | zero => intro _; rfl
  | succ n ih =>
    intro h
    unfold ff
    rw [ih (fun j hj => h j (by omega))]
    show (if P n = true then some n else none) = none
    rw [h n (by omega)]; rfl
set_option maxHeartbeats 4000000 in
theorem ff_some {P : Nat → Bool} {i : Nat} (h : ∀ j, j < i → P j = false) (hi : P i = true) : ∀ n, i < n → ff P n = some i := by
  intro n
  induction n with
  | zero => intro q; omega
  | succ n ih =>
    intro q
    unfold ff
    rcases Nat.lt_or_ge i n with c | c
    · rw [ih c]
    · have : i = n := by omega
      subst this
      rw [ff_none i h]
      show (if P i = true then some i else none) = some i
      rw [if_pos hi]
def clF (t : Td) (m : Nat) : Bool := decide (carN (b_w t m) 20 = 20)
def clB (t : Td) (a : Nat) : Option Nat := ff (fun b => decide (a < b) && clF t (2 ^ a ||| 2 ^ b)) (tne t)
def cl (t : Td) : Int32 × Int32 × Int32 :=
  if clF t 0 = true then (0, -1, -1) else
  match ff (fun a => clF t (2 ^ a)) (tne t) with
  | some a => (1, nI a, -1)
  | none => match ff (fun a => (clB t a).isSome) (tne t) with
    | some a => (2, nI a, nI ((clB t a).getD 0))
    | none => (-1, -1, -1)
def kY (t o k : Nat) : Bool := !(o == 4) && !(o == 6) && !(o == 8) && !(o == 0 && t == 0 && decide (13 ≤ k) && decide (k ≤ 15))
set_option maxHeartbeats 4000000 in
theorem kX_Y {s s1 : xSt} (h : xk kX s s1) : xk kY s s1 := h.mono (fun a o c q => by
  simp only [kX, kY, Bool.and_eq_true] at q ⊢; exact q.1)
set_option maxHeartbeats 4000000 in
theorem kY_R {s s1 : xSt} (h : xk kY s s1) : xk kR s s1 := h.mono (fun a o c q => by
  simp only [kY, kR, Bool.and_eq_true, Bool.not_eq_true', Bool.and_eq_false_iff, beq_eq_false_iff_ne, beq_iff_eq, decide_eq_false_iff_not] at q ⊢; omega)
set_option maxHeartbeats 4000000 in
theorem PC.stY {t : Td} {s s1 : xSt} (h : PC t s) (k : xk kY s s1) : PC t s1 := h.keep k rfl rfl (fun a o c q => by simp only [kY, Bool.and_eq_true, Bool.not_eq_true', Bool.and_eq_false_iff, beq_eq_false_iff_ne, decide_eq_false_iff_not]; omega)
set_option maxHeartbeats 4000000 in
theorem l6_setCalm {a b c : Int32} {s : xSt} {Q : xSt → Prop} (hq : ∀ s', (xI s' 0 13, xI s' 0 14, xI s' 0 15) = (a, b, c) → xk kY s s' → Q s') : d6_setCalm a b c s Q := by
  unfold d6_setCalm
  intro s1 e1 s2 e2 s3 e3
  subst e3 e2 e1
  refine hq _ ?_ (((xk.rf.sI rfl).sI rfl).sI rfl)
  rw [xI_xsI_eq, xI_xsI_ne (by decide), xI_xsI_ne (by decide), xI_xsI_eq, xI_xsI_ne (by decide), xI_xsI_eq]
set_option maxHeartbeats 4000000 in
theorem c20 {t : Td} {m : Nat} {Q0 Q1 : Prop} {R : Int32 → Prop} (h : R (if clF t m = true then 1 else 0)) (h0 : R 0 → Q0) (h1 : R 1 → Q1) : (¬ nI (carN (b_w t m) 20) = 20 → Q0) ∧ (nI (carN (b_w t m) 20) = 20 → Q1) := by
  have l := carN_le (b_w t m) 20
  have e : nI (carN (b_w t m) 20) = 20 ↔ carN (b_w t m) 20 = 20 := nI_eq (b := 20) (by omega) (by omega)
  rw [e]
  refine ⟨fun q => h0 ?_, fun q => h1 ?_⟩
  · rw [show clF t m = false from decide_eq_false q] at h; exact h
  · rw [show clF t m = true from decide_eq_true q] at h; exact h
set_option maxHeartbeats 4000000 in
theorem l6_isCalm {t : Td} {m : Nat} {a : Int32} {s : xSt} {Q : Int32 → xSt → Prop} (hT : VT t) (hC : PC t s) (hm : m < 256) (ha : a = nI m) (hq : ∀ s', xk kX s s' → Q (if clF t m = true then 1 else 0) s') : d6_isCalmWithout a s Q := by
  subst ha
  unfold d6_isCalmWithout
  refine l1_takeAll hT hC.1 fun s1 c1 k1 => ?_
  refine l1_takeNot hT hm (hC.stX (k4_X k1)).1 c1 (fun _ => rfl) fun s2 c2 k2 => ?_
  refine l2_trial (VB_w hT) (len_w hT) c2 fun s3 n3 k3 => l2_carriedInAll (VB_w hT) n3 ?_
  exact c20 (R := fun v => Q v s3) (hq s3 (((k4_X k1).tr (k4_X k2)).tr (kw6_X k3))) id id
set_option maxHeartbeats 4000000 in
theorem l6_findCalm {t : Td} {s : xSt} {Q : xSt → Prop} (hT : VT t) (hC : PC t s) (hq : ∀ s', (xI s' 0 13, xI s' 0 14, xI s' 0 15) = cl t → xk kY s s' → Q s') : d6_findCalm s Q := by
  have hn := hT.2.2.1
  unfold d6_findCalm
  refine l6_isCalm (m := 0) hT hC (by omega) rfl fun s1 k1 => ?_
  have fin : ∀ s2 x y z, xk kX s s2 → (x, y, z) = cl t → d6_setCalm x y z s2 (fun s9 => Q s9) := by
    intro s2 x y z k2 e
    exact l6_setCalm fun s' e' k' => hq s' (e'.trans e) ((kX_Y k2).tr k')
  cases c0 : clF t 0
  rotate_left
  · refine br_f (by decide) (fin s1 _ _ _ k1 ?_)
    unfold cl; rw [c0]; rfl
  refine br_t rfl ?_
  refine lp0 (fun n i s2 => d6_findCalm_L18 _ Q n (nI i) s2) (fun i s2 => (∀ j, j < i → clF t (2 ^ j) = false) ∧ xk kX s s2) (tne t) (by omega) ?_ ?_ s1 ⟨fun _ q => by omega, k1⟩
  rotate_left
  · intro n i s2 hi ⟨h1, h2⟩ ih
    have m1 := mk1 i (by omega)
    rw [d6_findCalm_L18, h2.1 3 8 rfl, hC.1.2.2.1.1]
    refine br_f (nle hi (by omega)) (l6_isCalm (m := 2 ^ i) hT (hC.stX h2) m1.2 m1.1 fun s3 k3 => ?_)
    cases c1 : clF t (2 ^ i)
    · refine br_t rfl ?_
      intro v8 e8
      rw [nI_1] at e8
      subst e8
      refine ih s3 ⟨fun j hj => ?_, h2.tr k3⟩
      rcases Nat.lt_or_ge j i with q | q
      · exact h1 j q
      · have : j = i := by omega
        subst this; exact c1
    · refine br_f (by decide) (fin s3 _ _ _ (h2.tr k3) ?_)
      unfold cl
      rw [c0, ff_some (P := fun a => clF t (2 ^ a)) h1 c1 (tne t) hi]
      rfl
  intro n s2 ⟨h1, h2⟩
  rw [d6_findCalm_L18, h2.1 3 8 rfl, hC.1.2.2.1.1]
  refine br_t (Int32.le_refl _) ?_
  clear n
  have none1 := ff_none (P := fun a => clF t (2 ^ a)) (tne t) h1
  refine lp0 (fun n i s3 => d6_findCalm_L55 _ Q n (nI i) s3) (fun i s3 => (∀ j, j < i → (clB t j).isSome = false) ∧ xk kX s s3) (tne t) (by omega) ?_ ?_ s2 ⟨fun _ q => by omega, h2⟩
  · intro n s3 ⟨g1, g2⟩
    rw [d6_findCalm_L55, g2.1 3 8 rfl, hC.1.2.2.1.1]
    refine br_t (Int32.le_refl _) (fin s3 _ _ _ g2 ?_)
    unfold cl
    rw [c0, none1, ff_none (P := fun a => (clB t a).isSome) (tne t) g1]
    rfl
  intro n i s3 hi ⟨g1, g2⟩ ih
  rw [d6_findCalm_L55, g2.1 3 8 rfl, hC.1.2.2.1.1]
  refine br_f (nle hi (by omega)) ?_
  intro v12 e12
  rw [nI_1] at e12
  subst e12
  refine lp (fun n j s4 => d6_findCalm_L70 (nI i) _ Q n (nI j) s4) (fun j s4 => (∀ l, l < j → (decide (i < l) && clF t (2 ^ i ||| 2 ^ l)) = false) ∧ i < j ∧ xk kX s s4) (tne t) ?_ ?_ x_lim (i + 1) s3 (by omega) (by show tne t - (i + 1) < 1000; omega) ⟨fun l hl => by rw [decide_eq_false (by omega), Bool.false_and], by omega, g2⟩
  · intro n s4 ⟨p1, p2, p3⟩
    rw [d6_findCalm_L70, p3.1 3 8 rfl, hC.1.2.2.1.1]
    refine br_t (Int32.le_refl _) ?_
    intro v20 e20
    rw [nI_1] at e20
    subst e20
    refine ih s4 ⟨fun j hj => ?_, p3⟩
    rcases Nat.lt_or_ge j i with q | q
    · exact g1 j q
    · have : j = i := by omega
      subst this
      unfold clB
      rw [ff_none (P := fun b => decide (j < b) && clF t (2 ^ j ||| 2 ^ b)) (tne t) p1]; rfl
  · intro n j s4 hj ⟨p1, p2, p3⟩ ih2
    have m2 := mk2 i (by omega) j (by omega)
    rw [d6_findCalm_L70, p3.1 3 8 rfl, hC.1.2.2.1.1]
    refine br_f (nle hj (by omega)) (l6_isCalm (m := 2 ^ i ||| 2 ^ j) hT (hC.stX p3) m2.2 m2.1 fun s5 k5 => ?_)
    cases c1 : clF t (2 ^ i ||| 2 ^ j)
    · refine br_t rfl ?_
      intro v8 e8
      rw [nI_1] at e8
      subst e8
      refine ih2 s5 ⟨fun l hl => ?_, by omega, p3.tr k5⟩
      rcases Nat.lt_or_ge l j with q | q
      · exact p1 l q
      · have : l = j := by omega
        subst this; rw [c1, Bool.and_false]
    · refine br_f (by decide) (fin s5 _ _ _ (p3.tr k5) ?_)
      have eb : clB t i = some j := ff_some (P := fun b => decide (i < b) && clF t (2 ^ i ||| 2 ^ b)) p1 (by show (decide (i < j) && clF t (2 ^ i ||| 2 ^ j)) = true; rw [decide_eq_true p2, c1]; rfl) (tne t) hj
      unfold cl
      rw [c0, none1, ff_some (P := fun a => (clB t a).isSome) g1 (by show (clB t i).isSome = true; rw [eb]; rfl) (tne t) hi]
      show _ = (2, nI i, nI ((clB t i).getD 0))
      rw [eb]; rfl
