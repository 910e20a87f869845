-- what is told: texts, events, sightings, sheets, the latest finding
abbrev Td : Type := Nat × (Nat → Int32) × Nat × (Nat → Int32) × Nat × (Nat → Ev) × Nat × (Nat → Ev) × (Nat → Int32) × (Nat → Nat) × (Nat → Nat → Int32) × Int32
def tn0 (t : Td) : Nat := t.1
def tf0 (t : Td) : Nat → Int32 := t.2.1
def tn1 (t : Td) : Nat := t.2.2.1
def tf1 (t : Td) : Nat → Int32 := t.2.2.2.1
def tne (t : Td) : Nat := t.2.2.2.2.1
def tg (t : Td) : Nat → Ev := t.2.2.2.2.2.1
def tns (t : Td) : Nat := t.2.2.2.2.2.2.1
def tsn (t : Td) : Nat → Ev := t.2.2.2.2.2.2.2.1
def tsf (t : Td) : Nat → Int32 := t.2.2.2.2.2.2.2.2.1
def tsz (t : Td) : Nat → Nat := t.2.2.2.2.2.2.2.2.2.1
def tit (t : Td) : Nat → Nat → Int32 := t.2.2.2.2.2.2.2.2.2.2.1
def tfd (t : Td) : Int32 := t.2.2.2.2.2.2.2.2.2.2.2
def ffi (p : Nat → Bool) : Nat → Nat
  | 0 => 0
  | n + 1 => if ffi p n < n then ffi p n else if p n then n + 1 else n
set_option maxHeartbeats 4000000 in
theorem ffi_spec (p : Nat → Bool) : ∀ n, ffi p n ≤ n ∧ (∀ j, j < ffi p n → p j = true) ∧ (ffi p n < n → p (ffi p n) = false) := by
  intro n
  induction n with
  | zero => exact ⟨Nat.le_refl _, fun j h => absurd h (Nat.not_lt_zero j), fun h => absurd h (Nat.lt_irrefl 0)⟩
  | succ n ih =>
    obtain ⟨h1, h2, h3⟩ := ih
    unfold ffi
    by_cases c : ffi p n < n
    · rw [if_pos c]
      exact ⟨by omega, h2, fun _ => h3 c⟩
    · rw [if_neg c]
      have e : ffi p n = n := by omega
      rw [e] at h2
      cases d : p n
      · simp only [Bool.false_eq_true, if_false]
        exact ⟨by omega, h2, fun _ => d⟩
      · simp only [if_true]
        refine ⟨by omega, fun j hj => ?_, fun q => by omega⟩
        rcases Nat.lt_or_ge j n with g | g
        · exact h2 j g
        · have : j = n := by omega
          subst this; exact d
set_option maxHeartbeats 4000000 in
theorem ffi_uniq {p : Nat → Bool} {n k : Nat} (hk : k ≤ n) (h1 : ∀ j, j < k → p j = true) (h2 : k < n → p k = false) : ffi p n = k := by
  obtain ⟨g1, g2, g3⟩ := ffi_spec p n
  rcases Nat.lt_trichotomy (ffi p n) k with c | c | c
  · have := h1 _ c
    rw [g3 (by omega)] at this
    cases this
  · exact c
  · have := g2 _ c
    rw [h2 (by omega)] at this
    cases this
def dgt (x : Int32) : Bool := decide (48 ≤ x) && decide (x ≤ 57)
def can (x : Int32) (r : Nat) : Bool := if r = 0 then decide (x = 112) || (decide (x = 103) || decide (x = 111)) else if r = 1 then decide (97 ≤ x) && decide (x ≤ 108) else if r = 2 then decide (x = 117) || decide (x = 100) else decide (x = 59)
def p0 (t : Td) (j : Nat) : Bool := dgt (tf0 t j)
def p1 (t : Td) (j : Nat) : Bool := can (tf1 t j) (j % 4)
def ok0 (t : Td) : Prop := ffi (p0 t) (tn0 t) = tn0 t
def ok1 (t : Td) : Prop := ffi (p1 t) (tn1 t) = tn1 t ∧ (tn1 t = 0 ∨ tn1 t % 4 = 3)
def ft0 (t : Td) : Int32 := if ffi (p0 t) (tn0 t) = tn0 t then -1 else nI (ffi (p0 t) (tn0 t))
def ft1 (t : Td) : Int32 := if ffi (p1 t) (tn1 t) = tn1 t ∧ (tn1 t = 0 ∨ tn1 t % 4 = 3) then -1 else nI (ffi (p1 t) (tn1 t))
def dval (x : Int32) : Nat := (x - 48).toNatClampNeg
def pval (x : Int32) : Nat := (x - 97).toNatClampNeg
def sval (x : Int32) : Nat := if x = 112 then 0 else if x = 103 then 1 else 2
def uval (x : Int32) : Nat := if x = 117 then 1 else 0
def t_dm (t : Td) (p : Nat) : Nat := if ffi (p0 t) (tn0 t) = tn0 t ∧ p < tn0 t then dval (tf0 t p) else 5
def t_fg (t : Td) : Nat := if ffi (p0 t) (tn0 t) = tn0 t then tn0 t else 0
def t_m (t : Td) : Nat := if ffi (p1 t) (tn1 t) = tn1 t ∧ (tn1 t = 0 ∨ tn1 t % 4 = 3) then (tn1 t + 1) / 4 else 0
def t_so (t : Td) (k : Nat) : Nat := sval (tf1 t (4 * k))
def t_pl (t : Td) (k : Nat) : Nat := pval (tf1 t (4 * k + 1))
def t_up (t : Td) (k : Nat) : Nat := uval (tf1 t (4 * k + 2))
def bt (t : Td) : Bl := (t_m t, t_so t, t_dm t, t_pl t, t_up t, (List.range (tne t)).map (tg t))
def VT (t : Td) : Prop := tn0 t ≤ 12 ∧ tn1 t ≤ 31 ∧ tne t ≤ 8 ∧ (∀ e, e < tne t → (tg t e).1 < 4 ∧ (tg t e).2.1 < 20 ∧ (tg t e).2.2 < 12) ∧ tns t ≤ 8 ∧ (∀ i, i < tns t → (tsn t i).1 < 20 ∧ (tsn t i).2.1 < 8 ∧ (tsn t i).2.2 < 12) ∧ (∀ s, s < 4 → tsf t s = -1 ∨ tsf t s = 0 ∨ tsf t s = 1 ∨ tsf t s = 2) ∧ (∀ s, s < 4 → tsz t s ≤ 60)
set_option maxHeartbeats 4000000 in
theorem dgt_val {x : Int32} (h : dgt x = true) : x - 48 = nI (dval x) ∧ dval x ≤ 9 := by
  simp only [dgt, Bool.and_eq_true, decide_eq_true_eq] at h
  obtain ⟨j, hj, e⟩ := nI_of2 (x := x) (M := 57) (n := 57) (by decide) (fun q => by
    have := Int32.lt_of_lt_of_le q (show (0 : Int32) ≤ 48 by decide)
    exact absurd h.1 (Int32.not_le.mpr this)) h.2
  have h48 : 48 ≤ j := by
    rcases Nat.lt_or_ge j 48 with q | q
    · exact absurd h.1 (by rw [e]; exact nle (a := 48) q (by omega))
    · exact q
  have e2 : x - 48 = nI (j - 48) := by rw [e]; exact pk_sub (b := 48) h48
  have e3 : dval x = j - 48 := by unfold dval; rw [e2, ncl (by omega)]
  exact ⟨by rw [e2, e3], by omega⟩
set_option maxHeartbeats 4000000 in
theorem can1_val {x : Int32} (h1 : 97 ≤ x) (h2 : x ≤ 108) : x - 97 = nI (pval x) ∧ pval x < 12 := by
  obtain ⟨j, hj, e⟩ := nI_of2 (x := x) (M := 108) (n := 108) (by decide) (fun q => by
    have := Int32.lt_of_lt_of_le q (show (0 : Int32) ≤ 97 by decide)
    exact absurd h1 (Int32.not_le.mpr this)) h2
  have h97 : 97 ≤ j := by
    rcases Nat.lt_or_ge j 97 with q | q
    · exact absurd h1 (by rw [e]; exact nle (a := 97) q (by omega))
    · exact q
  have e2 : x - 97 = nI (j - 97) := by rw [e]; exact pk_sub (b := 97) h97
  have e3 : pval x = j - 97 := by unfold pval; rw [e2, ncl (by omega)]
  exact ⟨by rw [e2, e3], by omega⟩
set_option maxHeartbeats 4000000 in
theorem bt_m (t : Td) : bm (bt t) = t_m t := rfl
set_option maxHeartbeats 4000000 in
theorem t_m_le {t : Td} (h : VT t) : t_m t ≤ 8 := by
  have := h.2.1
  unfold t_m; split <;> omega
set_option maxHeartbeats 4000000 in
theorem t_can {t : Td} {k r : Nat} (hk : k < t_m t) (hr : r < 3) : can (tf1 t (4 * k + r)) r = true := by
  unfold t_m at hk
  split at hk
  · rename_i c
    have g := (ffi_spec (p1 t) (tn1 t)).2.1 (4 * k + r) (by rw [c.1]; omega)
    unfold p1 at g
    rw [show (4 * k + r) % 4 = r by omega] at g
    exact g
  · omega
set_option maxHeartbeats 4000000 in
theorem VB_bt {t : Td} (h : VT t) : VB (bt t) := by
  refine ⟨t_m_le h, fun k hk => ?_, fun p hp => ?_, fun k hk => ?_, fun k hk => ?_, fun e he => ?_⟩
  · show sval _ ≤ 2
    unfold sval; split; omega; split <;> omega
  · show t_dm t p ≤ 9
    unfold t_dm
    split
    · rename_i c
      have g := (ffi_spec (p0 t) (tn0 t)).2.1 p (by rw [c.1]; exact c.2)
      exact (dgt_val g).2
    · omega
  · show pval _ < 12
    have g := t_can hk (show 1 < 3 by omega)
    simp only [can, if_neg (show ¬ 1 = 0 by decide), if_pos, Bool.and_eq_true, decide_eq_true_eq] at g
    exact (can1_val g.1 g.2).2
  · show uval _ ≤ 1
    unfold uval; split <;> omega
  · obtain ⟨i, hi, rfl⟩ := List.mem_map.mp he
    exact h.2.2.2.1 i (List.mem_range.mp hi)
/-- the class's texts -/
def X6 (t : Td) (s : xSt) : Prop := xI s 1 1 = nI (tn0 t) ∧ (∀ j, j < tn0 t → xA s 1 0 j = tf0 t j) ∧ xI s 2 1 = nI (tn1 t) ∧ (∀ j, j < tn1 t → xA s 2 0 j = tf1 t j)
set_option maxHeartbeats 4000000 in
theorem l5_b0 {t : Td} {s : xSt} {i : Nat} {Q : Int32 → xSt → Prop} (hT : VT t) (hX : X6 t s) (hi : i < tn0 t) (hq : Q (tf0 t i) s) : d5_byteAt 1 (nI i) s Q := by
  have := hT.1
  unfold d5_byteAt
  rw [hX.1]
  refine br_f (nI_pos (by omega)) (br_f (nle hi (by omega)) (br_f (nle (a := 12) (by omega) (by omega)) ⟨nin (n := 12) (by omega) (by omega), ?_⟩))
  rw [ncl (by omega), hX.2.1 i hi]; exact hq
set_option maxHeartbeats 4000000 in
theorem l5_b1 {t : Td} {s : xSt} {i : Nat} {Q : Int32 → xSt → Prop} (hT : VT t) (hX : X6 t s) (hi : i < tn1 t) (hq : Q (tf1 t i) s) : d5_byteAt 2 (nI i) s Q := by
  have := hT.2.1
  unfold d5_byteAt
  rw [hX.2.2.1]
  refine br_f (nI_pos (by omega)) (br_f (nle hi (by omega)) (br_f (nle (a := 31) (by omega) (by omega)) ⟨nin (n := 31) (by omega) (by omega), ?_⟩))
  rw [ncl (by omega), hX.2.2.2 i hi]; exact hq
set_option maxHeartbeats 4000000 in
theorem l6_faultOfStone {t : Td} {s : xSt} {Q : Int32 → xSt → Prop} (hT : VT t) (hX : X6 t s) (hq : Q (ft0 t) s) : d6_faultOfStone s Q := by
  have hn := hT.1
  unfold d6_faultOfStone
  refine lp0 (fun n i (_ : Unit) => d6_faultOfStone_L2 (fun s9 => Q (-1) s9) Q n (nI i) s) (fun i _ => ∀ j, j < i → p0 t j = true) (tn0 t) (by omega) ?_ ?_ () (fun _ q => by omega)
  · intro n _ h
    rw [d6_faultOfStone_L2]
    unfold d5_size
    rw [hX.1]
    have e : ffi (p0 t) (tn0 t) = tn0 t := ffi_uniq (Nat.le_refl _) h (fun q => by omega)
    unfold ft0 at hq
    rw [if_pos e] at hq
    exact br_t (Int32.le_refl _) hq
  · intro n i _ hi h ih
    rw [d6_faultOfStone_L2]
    unfold d5_size
    rw [hX.1]
    refine br_f (nle hi (by omega)) (l5_b0 hT hX hi ?_)
    have bad : p0 t i = false → Q (nI i) s := fun b => by
      have e : ffi (p0 t) (tn0 t) = i := ffi_uniq (by omega) h (fun _ => b)
      unfold ft0 at hq
      rw [e, if_neg (by omega)] at hq
      exact hq
    refine ⟨fun c => bad ?_, fun c => ⟨fun d => ?_, fun d => bad ?_⟩⟩
    · simp only [p0, dgt, Bool.and_eq_false_iff, decide_eq_false_iff_not]
      exact Or.inl (Int32.not_le.mpr c)
    · intro v e; subst e
      rw [nI_1]
      refine ih () fun j hj => ?_
      rcases Nat.lt_or_ge j i with q | q
      · exact h j q
      · have : j = i := by omega
        subst this
        simp only [p0, dgt, Bool.and_eq_true, decide_eq_true_eq]
        exact ⟨Int32.not_lt.mp c, d⟩
    · simp only [p0, dgt, Bool.and_eq_false_iff, decide_eq_false_iff_not]
      exact Or.inr d
set_option maxHeartbeats 4000000 in
theorem l6_canStand {x : Int32} {r : Nat} {s : xSt} {Q : Int32 → xSt → Prop} (hr : r < 4) (q1 : can x r = true → Q 1 s) (q0 : can x r = false → Q 0 s) : d6_canStand x (nI r) s Q := by
  unfold d6_canStand
  unfold can at q1 q0
  rcases (show r = 0 ∨ r = 1 ∨ r = 2 ∨ r = 3 by omega) with c | c | c | c
  · subst c
    simp only [if_true] at q1 q0
    refine bn_t rfl ⟨fun a => q1 (by simp [a]), fun a => ⟨fun b => q1 (by simp [b]), fun b => ⟨fun d => q0 (by simp [a, b, d]), fun d => q1 (by simp [d])⟩⟩⟩
  · subst c
    simp only [if_neg (show ¬ 1 = 0 by decide), if_true] at q1 q0
    refine bn_f (by decide) (bn_t rfl ⟨fun a => q0 ?_, fun a => ⟨fun b => q0 ?_, fun b => q1 ?_⟩⟩)
    · simp only [Bool.and_eq_false_iff, decide_eq_false_iff_not]; exact Or.inl (Int32.not_le.mpr a)
    · simp only [Bool.and_eq_false_iff, decide_eq_false_iff_not]; exact Or.inr (Int32.not_le.mpr b)
    · simp only [Bool.and_eq_true, decide_eq_true_eq]; exact ⟨Int32.not_lt.mp a, Int32.not_lt.mp b⟩
  · subst c
    simp only [if_neg (show ¬ 2 = 0 by decide), if_neg (show ¬ 2 = 1 by decide), if_true] at q1 q0
    refine bn_f (by decide) (bn_f (by decide) (bn_t rfl ⟨fun a => q1 (by simp [a]), fun a => ⟨fun b => q0 (by simp [a, b]), fun b => q1 (by simp [b])⟩⟩))
  · subst c
    simp only [if_neg (show ¬ 3 = 0 by decide), if_neg (show ¬ 3 = 1 by decide), if_neg (show ¬ 3 = 2 by decide)] at q1 q0
    refine bn_f (by decide) (bn_f (by decide) (bn_f (by decide) ⟨fun a => q0 (by simp [a]), fun a => q1 (by simp [a])⟩))
set_option maxHeartbeats 4000000 in
theorem rem4 {i : Nat} (h : i < 2147483648) : nI i - nI i / 4 * 4 = nI (i % 4) := pk_rem (d := 4) h (by omega) (by omega)
set_option maxHeartbeats 4000000 in
theorem l6_faultOfMembers {t : Td} {s : xSt} {Q : Int32 → xSt → Prop} (hT : VT t) (hX : X6 t s) (hq : Q (ft1 t) s) : d6_faultOfMembers s Q := by
  have hn := hT.2.1
  unfold d6_faultOfMembers d5_size
  rw [hX.2.2.1]
  refine lp0 (fun n i (_ : Unit) => d6_faultOfMembers_L10 (nI (tn1 t)) _ Q n (nI i) s) (fun i _ => ∀ j, j < i → p1 t j = true) (tn1 t) (by omega) ?_ ?_ () (fun _ q => by omega)
  · intro n _ h
    rw [d6_faultOfMembers_L10]
    have e : ffi (p1 t) (tn1 t) = tn1 t := ffi_uniq (Nat.le_refl _) h (fun q => by omega)
    refine br_t (Int32.le_refl _) ?_
    unfold ft1 at hq
    rw [e] at hq
    by_cases c : tn1 t = 0
    · rw [if_pos ⟨rfl, Or.inl c⟩] at hq
      exact br_t (by rw [c]; rfl) hq
    · refine br_f (nne (b := 0) c (by omega) (by omega)) ⟨by decide, ?_⟩
      rw [rem4 (by omega)]
      by_cases d : tn1 t % 4 = 3
      · rw [if_pos ⟨rfl, Or.inr d⟩] at hq
        exact bn_t (by rw [d]; rfl) hq
      · rw [if_neg (fun z => by rcases z.2 with z | z; exact c z; exact d z)] at hq
        exact bn_f (nne (b := 3) d (by omega) (by omega)) hq
  · intro n i _ hi h ih
    rw [d6_faultOfMembers_L10]
    refine br_f (nle hi (by omega)) (l5_b1 hT hX hi ⟨by decide, ?_⟩)
    rw [rem4 (by omega)]
    refine l6_canStand (by omega) (fun c => bn_f (by decide) ?_) (fun c => bn_t rfl ?_)
    · intro v e; subst e
      rw [nI_1]
      refine ih () fun j hj => ?_
      rcases Nat.lt_or_ge j i with q | q
      · exact h j q
      · have : j = i := by omega
        subst this; exact c
    · have e : ffi (p1 t) (tn1 t) = i := ffi_uniq (by omega) h (fun _ => c)
      unfold ft1 at hq
      rw [e, if_neg (by omega)] at hq
      exact hq
