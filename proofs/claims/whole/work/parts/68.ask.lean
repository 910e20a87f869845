-- ask
def cn (f : Nat → Bool) (d : Nat → Nat) (x : Nat) : Nat → Nat
  | 0 => 0
  | i + 1 => if f i = true ∧ d i = x then cn f d x i + 1 else cn f d x i
def mc (f : Nat → Bool) (d : Nat → Nat) : Nat → Nat
  | 0 => 0
  | i + 1 => if f i = true then (if mc f d i < cn f d (d i) (i + 1) then cn f d (d i) (i + 1) else mc f d i) else mc f d i
def c4 (f : Nat → Bool) (d : Nat → Nat) (v i : Nat) : Nat := if f v = true then cn f d (d v) i else 0
def mm (f : Nat → Bool) (d : Nat → Nat) : Nat → Nat
  | 0 => 0
  | i + 1 => if c4 f d i 10 ≤ mm f d i then mm f d i else c4 f d i 10
set_option maxHeartbeats 4000000 in
theorem cn_s (f : Nat → Bool) (d : Nat → Nat) (x i : Nat) : cn f d x (i + 1) = if f i = true ∧ d i = x then cn f d x i + 1 else cn f d x i := rfl
set_option maxHeartbeats 4000000 in
theorem cn_le (f : Nat → Bool) (d : Nat → Nat) (x : Nat) : ∀ i, cn f d x i ≤ i := by
  intro i
  induction i with
  | zero => exact Nat.le_refl _
  | succ i ih => rw [cn_s]; split <;> omega
set_option maxHeartbeats 4000000 in
theorem cn_mono (f : Nat → Bool) (d : Nat → Nat) (x : Nat) : ∀ j i, i ≤ j → cn f d x i ≤ cn f d x j := by
  intro j
  induction j with
  | zero => intro i h; have : i = 0 := by omega
            subst this; exact Nat.le_refl _
  | succ j ih =>
    intro i h
    rcases Nat.lt_or_ge j i with c | c
    · have : i = j + 1 := by omega
      subst this; exact Nat.le_refl _
    · have := ih i c
      rw [cn_s]; split <;> omega
set_option maxHeartbeats 4000000 in
theorem mc_iff (f : Nat → Bool) (d : Nat → Nat) (X : Nat) : ∀ i, mc f d i ≤ X ↔ ∀ v, v < i → f v = true → cn f d (d v) (v + 1) ≤ X := by
  intro i
  induction i with
  | zero => exact ⟨fun _ v h => by omega, fun _ => Nat.zero_le _⟩
  | succ i ih =>
    have e : mc f d (i + 1) = if f i = true then (if mc f d i < cn f d (d i) (i + 1) then cn f d (d i) (i + 1) else mc f d i) else mc f d i := rfl
    rw [e]
    by_cases c : f i = true
    · rw [if_pos c]
      constructor
      · intro h v hv w
        have h2 : mc f d i ≤ X ∧ cn f d (d i) (i + 1) ≤ X := by
          by_cases z : mc f d i < cn f d (d i) (i + 1)
          · rw [if_pos z] at h; exact ⟨by omega, h⟩
          · rw [if_neg z] at h; exact ⟨h, by omega⟩
        rcases Nat.lt_or_ge v i with q | q
        · exact ih.mp h2.1 v q w
        · have : v = i := by omega
          subst this; exact h2.2
      · intro h
        have h1 := ih.mpr (fun v hv w => h v (by omega) w)
        have h2 := h i (by omega) c
        split
        · exact h2
        · exact h1
    · rw [if_neg c]
      constructor
      · intro h v hv w
        rcases Nat.lt_or_ge v i with q | q
        · exact ih.mp h v q w
        · have : v = i := by omega
          subst this; exact absurd w c
      · exact fun h => ih.mpr (fun v hv w => h v (by omega) w)
set_option maxHeartbeats 4000000 in
theorem mm_iff (f : Nat → Bool) (d : Nat → Nat) (X : Nat) : ∀ i, mm f d i ≤ X ↔ ∀ v, v < i → c4 f d v 10 ≤ X := by
  intro i
  induction i with
  | zero => exact ⟨fun _ v h => by omega, fun _ => Nat.zero_le _⟩
  | succ i ih =>
    have e : mm f d (i + 1) = if c4 f d i 10 ≤ mm f d i then mm f d i else c4 f d i 10 := rfl
    rw [e]
    constructor
    · intro h v hv
      have h2 : mm f d i ≤ X ∧ c4 f d i 10 ≤ X := by
        by_cases z : c4 f d i 10 ≤ mm f d i
        · rw [if_pos z] at h; exact ⟨h, by omega⟩
        · rw [if_neg z] at h; exact ⟨by omega, h⟩
      rcases Nat.lt_or_ge v i with q | q
      · exact ih.mp h2.1 v q
      · have : v = i := by omega
        subst this; exact h2.2
    · intro h
      have h1 := ih.mpr (fun v hv => h v (by omega))
      have h2 := h i (by omega)
      split
      · exact h1
      · exact h2
set_option maxHeartbeats 4000000 in
theorem mc_mm (f : Nat → Bool) (d : Nat → Nat) : mc f d 10 = mm f d 10 := by
  have key : ∀ X, mc f d 10 ≤ X ↔ mm f d 10 ≤ X := by
    intro X
    rw [mc_iff, mm_iff]
    constructor
    · intro h v hv
      unfold c4
      split
      · have : ∀ i, i ≤ 10 → ∀ x, cn f d x i ≤ X := by
          intro i
          induction i with
          | zero => intro _ x; exact Nat.zero_le _
          | succ i ih =>
            intro hi x
            rw [cn_s]
            by_cases c : f i = true ∧ d i = x
            · have := h i (by omega) c.1
              rw [cn_s, if_pos ⟨c.1, rfl⟩, c.2] at this
              rw [if_pos c]; exact this
            · rw [if_neg c]; exact ih (by omega) x
        exact this 10 (Nat.le_refl _) _
      · exact Nat.zero_le _
    · intro h v hv w
      have := h v hv
      unfold c4 at this
      rw [if_pos w] at this
      exact Nat.le_trans (cn_mono f d _ 10 (v + 1) (by omega)) this
  exact Nat.le_antisymm ((key _).mpr (Nat.le_refl _)) ((key _).mp (Nat.le_refl _))
set_option maxHeartbeats 4000000 in
theorem mc_le (f : Nat → Bool) (d : Nat → Nat) : mc f d 10 ≤ 10 := (mc_iff f d 10 10).mpr fun v hv _ => Nat.le_trans (cn_le _ _ _ _) (by omega)
set_option maxHeartbeats 4000000 in
theorem or_lt10 : ∀ m, m < 1024 → ∀ k, k < 10 → m ||| 2 ^ k < 1024 ∧ nI m ||| (1 <<< (nI k &&& 31)) = nI (m ||| 2 ^ k) := by decide +kernel
set_option maxHeartbeats 4000000 in
theorem bit_at10 : ∀ m, m < 1024 → ∀ k, k < 10 → (nI m >>> (nI k &&& 31)) &&& 1 = if m.testBit k = true then 1 else 0 := by decide +kernel
set_option maxHeartbeats 4000000 in
theorem bits_nat (f : Nat → Bool) : ∀ n, n ≤ 10 → bits f n = nI (rbN f n) ∧ rbN f n < 1024 := by
  intro n
  induction n with
  | zero => intro _; exact ⟨rfl, by show 0 < 1024; omega⟩
  | succ n ih =>
    intro hn
    obtain ⟨e, l⟩ := ih (by omega)
    have o := or_lt10 (rbN f n) l n (by omega)
    have e2 : rbN f (n + 1) = rbN f n ||| (if f n = true then 2 ^ n else 0) := rfl
    have e3 : bits f (n + 1) = bits f n ||| (if f n = true then 1 <<< (nI n &&& 31) else 0) := rfl
    rw [e2, e3, e]
    cases f n
    · simp only [Bool.false_eq_true, if_false, Nat.or_zero]
      exact ⟨by rw [Int32.or_zero], l⟩
    · simp only [if_true]
      exact ⟨o.2, o.1⟩
set_option maxHeartbeats 4000000 in
theorem bits_at (f : Nat → Bool) {k : Nat} (hk : k < 10) : ((bits f 10 >>> (nI k &&& 31)) &&& 1 = 1) ↔ f k = true := by
  obtain ⟨e, l⟩ := bits_nat f 10 (Nat.le_refl _)
  rw [e, bit_at10 _ l k hk, rb_bit]
  simp only [decide_eq_true hk, Bool.true_and]
  cases f k
  · simp only [Bool.false_eq_true, if_false]; decide
  · simp only [if_true]
set_option maxHeartbeats 4000000 in
theorem l7_isInB {f : Nat → Bool} {k : Nat} {s : xSt} {Q : Int32 → xSt → Prop} (hk : k < 10) (q0 : ¬ f k = true → Q 0 s) (q1 : f k = true → Q 1 s) : d7_isIn (bits f 10) (nI k) s Q := by
  unfold d7_isIn
  rw [bits_at f hk]
  exact ⟨q0, q1⟩
def kM0 (t o k : Nat) : Bool := !(o == 0 && t == 1 && k == 10)
set_option maxHeartbeats 4000000 in
theorem l6_mostAlike {f : Nat → Bool} {d : Nat → Nat} {h : Nat} {s : xSt} {Q : Int32 → xSt → Prop} (hh : h < 20) (hd : ∀ v, v < 10 → d v ≤ 9) (hB : ∀ v, v < 10 → xB s 0 9 h v = nI (d v)) (hq : ∀ s', xk kM0 s s' → Q (nI (mc f d 10)) s') : d6_mostAlike (bits f 10) (nI h) s Q := by
  unfold d6_mostAlike
  refine l6_isHour hh (bn_f (by decide) ?_)
  refine lp0 (fun n i s3 => d6_mostAlike_L11 (bits f 10) (nI h) _ Q n (nI i) s3) (fun i s3 => (∀ x, x < i → xA s3 0 10 x = 0) ∧ xk kM0 s s3) 10 (by omega) ?_ ?_ s ⟨fun _ q => by omega, xk.rf⟩
  rotate_left
  · intro n i s3 hi ⟨g1, g2⟩ ih
    rw [d6_mostAlike_L11, ncl (by omega)]
    refine br_f (nlt (a := 9) (by omega) (by omega)) ⟨nin hi (by omega), ?_⟩
    intro s6 e6 v7 e7
    rw [nI_1] at e7
    subst e6 e7
    refine ih _ ⟨fun x hx => ?_, g2.uA rfl⟩
    rw [xA_xuA_eq, upd_ap]
    split
    · rfl
    · exact g1 x (by omega)
  intro n s3 ⟨g1, g2⟩
  rw [d6_mostAlike_L11]
  refine br_t (by decide) ?_
  clear n
  refine lp0 (fun n i s4 => d6_mostAlike_L35 (bits f 10) (nI h) (fun v26 s25 => Q v26 s25) Q n (nI (mc f d i)) (nI i) s4) (fun i s4 => (∀ x, x < 10 → xA s4 0 10 x = nI (cn f d x i)) ∧ xk kM0 s s4) 10 (by omega) ?_ ?_ s3 ⟨g1, g2⟩
  · intro n s4 ⟨_, f2⟩
    rw [d6_mostAlike_L35]
    exact br_t (by decide) (hq s4 f2)
  · intro n i s4 hi ⟨f1, f2⟩ ih
    have di := hd i hi
    have ml : mc f d i ≤ i := (mc_iff f d i i).mpr fun v hv _ => Nat.le_trans (cn_le _ _ _ _) (by omega)
    have cl := cn_le f d (d i) i
    have em : mc f d (i + 1) = if f i = true then (if mc f d i < cn f d (d i) (i + 1) then cn f d (d i) (i + 1) else mc f d i) else mc f d i := rfl
    rw [d6_mostAlike_L35, ncl (a := h) (by omega), ncl (a := i) (by omega)]
    refine br_f (nlt (a := 9) (by omega) (by omega)) ⟨nin hh (by omega), nin hi (by omega), ?_⟩
    intro v12 e12
    rw [f2.2.2 0 9 h rfl, hB i hi] at e12
    subst e12
    rw [bits_at f hi, ncl (a := d i) (by omega)]
    refine ⟨fun c => ?_, fun c => br_f (nI_pos (by omega)) (br_f (nlt (a := 9) (by omega) (by omega)) ⟨nin (by omega) (by omega), nin (by omega) (by omega), ?_⟩)⟩
    · intro v14 e14
      rw [nI_1] at e14; subst e14
      rw [em, if_neg c] at ih
      refine ih s4 ⟨fun x hx => ?_, f2⟩
      rw [cn_s, if_neg (fun z => c z.1)]; exact f1 x hx
    · intro s21 e21
      rw [f1 (d i) (by omega), nI_1] at e21
      refine ⟨nin (by omega) (by omega), ?_⟩
      intro v23 e23 v24 e24
      have x21 : xA s21 0 10 (d i) = nI (cn f d (d i) i + 1) := by subst e21; rw [xA_xuA_eq, upd_eq]
      have en : cn f d (d i) (i + 1) = cn f d (d i) i + 1 := by rw [cn_s, if_pos ⟨c, rfl⟩]
      rw [nI_1] at e24
      rw [x21, ← en] at e23
      rw [em, if_pos c] at ih
      have e25 : v23 = nI (if mc f d i < cn f d (d i) (i + 1) then cn f d (d i) (i + 1) else mc f d i) := by
        rw [e23]
        by_cases z : mc f d i < cn f d (d i) (i + 1)
        · rw [if_pos z, if_pos (nI_lt z (by omega))]
        · rw [if_neg z, if_neg (nlt (by omega) (by omega))]
      subst e24 e25
      refine ih s21 ⟨fun x hx => ?_, by subst e21; exact f2.uA rfl⟩
      subst e21
      rw [xA_xuA_eq, upd_ap, cn_s]
      by_cases z : x = d i
      · rw [if_pos z, if_pos ⟨c, z.symm⟩, z]
      · rw [if_neg z, if_neg (fun w => z w.2.symm)]; exact f1 x hx
def am (t : Td) (p h : Nat) : Nat := mc (weF t p) (wd t p h) 10
def amF (t : Td) (p h : Nat) : Nat := 10 - am t p h
set_option maxHeartbeats 4000000 in
theorem wd_le {t : Td} {p h v : Nat} (hT : VT t) (hp : p < 12) (hh : h < 20) (hv : v < 10) : wd t p h v ≤ 9 := (VS.run (VB_da (VB_bt hT) (by omega)) (h + 1) (by omega)).1 p hp
set_option maxHeartbeats 4000000 in
theorem l6_hourToAsk {t : Td} {p : Nat} {s : xSt} {Q : Int32 → xSt → Prop} (hT : VT t) (hp : p < 12) (hB : ∀ v, v < 10 → ∀ h, h < 20 → xB s 0 9 h v = nI (wd t p h v)) (hq : ∀ s', xk kW s s' → Q (bst (amF t p) 20).1 s') : d6_hourToAsk (bits (weF t p) 10) s Q := by
  unfold d6_hourToAsk
  refine l0_start fun s1 g0 g1 k1 => ?_
  refine lp0 (fun n i s3 => d6_hourToAsk_L9 (bits (weF t p) 10) (fun s7 => Q (xI s7 8 0) s7) Q n (nI i) s3) (fun i s3 => BB (amF t p) i s3 ∧ (∀ v, v < 10 → ∀ h, h < 20 → xB s3 0 9 h v = nI (wd t p h v)) ∧ xk kW s s3) 20 (by omega) ?_ ?_ s1 ⟨⟨g0, g1⟩, fun v hv h hh => by rw [k1.2.2 0 9 h rfl]; exact hB v hv h hh, kX_W (k8_X k1)⟩
  · intro n s3 ⟨h1, _, h3⟩
    rw [d6_hourToAsk_L9]
    refine br_t (Int32.le_refl _) ?_
    have q := hq s3 h3
    rw [← h1.1] at q
    exact q
  · intro n i s3 hi ⟨h1, h2, h3⟩ ih
    have ml := mc_le (weF t p) (wd t p i)
    rw [d6_hourToAsk_L9]
    refine br_f (nle (a := 20) hi (by omega)) (l6_mostAlike hi (fun v hv => wd_le hT hp hi hv) (fun v hv => h2 v hv i hi) fun s4 k4 => ?_)
    rw [show (10 : Int32) - nI (mc (weF t p) (wd t p i) 10) = nI (amF t p i) from pk_sub (a := 10) ml]
    refine BB_offer (f := amF t p) (h1.keep k4 rfl rfl) fun s5 b5 k5 => ?_
    intro v6 e6
    rw [nI_1] at e6; subst e6
    refine ih s5 ⟨b5, fun v hv h hh => ?_, (h3.tr (k4.mono fun a o c q => ?_)).tr (kX_W (k8_X k5))⟩
    · rw [k5.2.2 0 9 h rfl, k4.2.2 0 9 h rfl]; exact h2 v hv h hh
    · simp only [kW, kM0, Bool.and_eq_true, Bool.not_eq_true', Bool.and_eq_false_iff, Bool.or_eq_false_iff, beq_eq_false_iff_ne] at q ⊢
      omega
/-- the reference's least -/
def ak (M : Nat → Nat) : Nat → Int32 × Int32
  | 0 => (-1, 0)
  | i + 1 => if (ak M i).1 = -1 then (nI i, nI (M i)) else if (ak M i).2 ≤ nI (M i) then ak M i else (nI i, nI (M i))
set_option maxHeartbeats 4000000 in
theorem ak_s (M : Nat → Nat) (i : Nat) : ak M (i + 1) = if (ak M i).1 = -1 then (nI i, nI (M i)) else if (ak M i).2 ≤ nI (M i) then ak M i else (nI i, nI (M i)) := rfl
set_option maxHeartbeats 4000000 in
theorem ak_bst {M : Nat → Nat} (hM : ∀ i, M i ≤ 10) : ∀ i, i < 1000 → ∃ j, j < i + 1 ∧ ak M (i + 1) = (nI j, nI (M j)) ∧ bst (fun i => 10 - M i) (i + 1) = (nI j, nI (10 - M j)) := by
  intro i
  induction i with
  | zero =>
    intro _
    refine ⟨0, by omega, rfl, ?_⟩
    rw [bst_s, if_neg]
    show ¬ nI (10 - M 0) ≤ -1
    intro q
    exact absurd (Int32.lt_of_le_of_lt q (show (-1 : Int32) < 0 by decide)) (nI_pos (by omega))
  | succ i ih =>
    intro hi
    obtain ⟨j, hj, e1, e2⟩ := ih (by omega)
    have mi := hM (i + 1)
    have mj := hM j
    rw [ak_s, bst_s, e1, e2]
    show ∃ j', j' < i + 1 + 1 ∧ (if nI j = -1 then (nI (i + 1), nI (M (i + 1))) else if nI (M j) ≤ nI (M (i + 1)) then (nI j, nI (M j)) else (nI (i + 1), nI (M (i + 1)))) = (nI j', nI (M j')) ∧ (if nI (10 - M (i + 1)) ≤ nI (10 - M j) then (nI j, nI (10 - M j)) else (nI (i + 1), nI (10 - M (i + 1)))) = (nI j', nI (10 - M j'))
    rw [if_neg (nI_nm (by omega))]
    by_cases c : M j ≤ M (i + 1)
    · exact ⟨j, by omega, by rw [if_pos (nI_le c (by omega))], by rw [if_pos (nI_le (by omega) (by omega))]⟩
    · exact ⟨i + 1, by omega, by rw [if_neg (nle (by omega) (by omega))], by rw [if_neg (nle (by omega) (by omega))]⟩
set_option maxHeartbeats 4000000 in
theorem l7_ask40 {t : Td} {p h v : Nat} {a3 a4 a6 : Int32} {s : xSt} {K Q : Int32 → xSt → Prop} (hT : VT t) (hp : p < 12) (hh : h < 20) (hv : v < 10) (hA : ∀ v, v < 10 → ∀ h, h < 20 → xA s 13 35 (20 * v + h) = nI (wd t p h v)) (hq : K (nI (c4 (weF t p) (wd t p h) v 10)) s) : d7_askOf_L40 (bits (weF t p) 10) a3 a4 (nI h) a6 (nI v) K Q x_lim 0 0 s := by
  have z0 : nI (c4 (weF t p) (wd t p h) v 0) = 0 := by unfold c4; split <;> rfl
  suffices H : d7_askOf_L40 (bits (weF t p) 10) a3 a4 (nI h) a6 (nI v) K Q x_lim (nI (c4 (weF t p) (wd t p h) v 0)) 0 s by
    rw [z0] at H; exact H
  refine lp0 (fun n3 w (_ : Unit) => d7_askOf_L40 (bits (weF t p) 10) a3 a4 (nI h) a6 (nI v) K Q n3 (nI (c4 (weF t p) (wd t p h) v w)) (nI w) s) (fun _ _ => True) 10 (by omega) ?_ ?_ () trivial
  · intro n3 _ _
    rw [d7_askOf_L40]
    exact br_t (Int32.le_refl _) hq
  · intro n3 w _ hw _ ih3
    have ih3 := ih3 () trivial
    rw [d7_askOf_L40]
    refine br_f (nle (a := 10) hw (by omega)) ?_
    have st : ∀ v15 : Int32, v15 = nI (if weF t p v = true ∧ weF t p w = true ∧ wd t p h v = wd t p h w then 1 else 0) → ∀ v18 : Int32, v18 = nI (c4 (weF t p) (wd t p h) v w) + v15 → ∀ v19 : Int32, v19 = nI w + 1 → d7_askOf_L40 (bits (weF t p) 10) a3 a4 (nI h) a6 (nI v) K Q n3 v18 v19 s := by
      intro v15 e15 v18 e18 v19 e19
      rw [nI_1] at e19
      rw [e15, nI_add] at e18
      have e6 : c4 (weF t p) (wd t p h) v (w + 1) = c4 (weF t p) (wd t p h) v w + (if weF t p v = true ∧ weF t p w = true ∧ wd t p h v = wd t p h w then 1 else 0) := by
        unfold c4
        by_cases c : weF t p v = true
        · rw [if_pos c, if_pos c, cn_s]
          by_cases g : weF t p w = true ∧ wd t p h w = wd t p h v
          · rw [if_pos g, if_pos ⟨c, g.1, g.2.symm⟩]
          · rw [if_neg g, if_neg (fun z => g ⟨z.2.1, z.2.2.symm⟩), Nat.add_zero]
        · rw [if_neg c, if_neg c, if_neg (fun z => c z.1)]
      rw [e6] at ih3
      subst e18 e19
      exact ih3
    refine l7_isInB hv (fun c => ?_) fun c => ?_
    · unfold jn
      refine br_t rfl (st 0 ?_)
      rw [if_neg (fun z => c z.1)]; rfl
    · unfold jn
      refine br_f (by decide) (l7_isInB hw (fun g => br_t rfl (st 0 ?_)) fun g => br_f (by decide) ?_)
      · rw [if_neg (fun z => g z.2.1)]; rfl
      · have l1 := wd_le hT hp hh hv
        have l2 := wd_le hT hp hh hw
        rw [show (20 : Int32) * nI v + nI h = nI (20 * v + h) by rw [l_20, pk_mul, nI_add], show (20 : Int32) * nI w + nI h = nI (20 * w + h) by rw [l_20, pk_mul, nI_add], ncl (a := 20 * v + h) (by omega), ncl (a := 20 * w + h) (by omega), hA v hv h hh, hA w hw h hh, nI_eq (by omega) (by omega)]
        refine ⟨nin (by omega) (by omega), nin (by omega) (by omega), fun z => st 0 ?_, fun z => st 1 ?_⟩
        · rw [if_neg (fun u => z u.2.2)]; rfl
        · rw [if_pos ⟨c, g, z⟩]; rfl
set_option maxHeartbeats 4000000 in
theorem l7_ask27 {t : Td} {p h : Nat} {a3 a4 : Int32} {s : xSt} {K Q : Int32 → xSt → Prop} (hT : VT t) (hp : p < 12) (hh : h < 20) (hA : ∀ v, v < 10 → ∀ h, h < 20 → xA s 13 35 (20 * v + h) = nI (wd t p h v)) (hq : K (nI (mm (weF t p) (wd t p h) 10)) s) : d7_askOf_L27 (bits (weF t p) 10) a3 a4 (nI h) K Q x_lim 0 0 s := by
  refine lp0 (fun n2 i (_ : Unit) => d7_askOf_L27 (bits (weF t p) 10) a3 a4 (nI h) K Q n2 (nI (mm (weF t p) (wd t p h) i)) (nI i) s) (fun _ _ => True) 10 (by omega) ?_ ?_ () trivial
  · intro n2 _ _
    rw [d7_askOf_L27]
    exact br_t (Int32.le_refl _) hq
  · intro n2 v _ hv _ ih2
    have ih2 := ih2 () trivial
    rw [d7_askOf_L27]
    refine br_f (nle (a := 10) hv (by omega)) (l7_ask40 hT hp hh hv hA ?_)
    have e5 : mm (weF t p) (wd t p h) (v + 1) = if c4 (weF t p) (wd t p h) v 10 ≤ mm (weF t p) (wd t p h) v then mm (weF t p) (wd t p h) v else c4 (weF t p) (wd t p h) v 10 := rfl
    have b0 : ∀ w, c4 (weF t p) (wd t p h) w 10 ≤ 10 := fun w => by
      unfold c4
      split
      · exact cn_le _ _ _ _
      · omega
    have b1 := b0 v
    have b2 : mm (weF t p) (wd t p h) v ≤ 10 := (mm_iff _ _ 10 v).mpr fun w _ => b0 w
    rw [e5] at ih2
    rw [nI_leI (by omega) (by omega)]
    refine ⟨fun c => ?_, fun c => ?_⟩
    · rw [if_pos c] at ih2
      intro v30 e30; rw [nI_1] at e30; subst e30; exact ih2
    · rw [if_neg c] at ih2
      intro v30 e30; rw [nI_1] at e30; subst e30; exact ih2
set_option maxHeartbeats 4000000 in
theorem l7_askL {t : Td} {p : Nat} {s : xSt} {Q : Int32 → xSt → Prop} (hT : VT t) (hp : p < 12) (hA : ∀ v, v < 10 → ∀ h, h < 20 → xA s 13 35 (20 * v + h) = nI (wd t p h v)) (hq : Q (bst (amF t p) 20).1 s) : d7_askOf_L14 (bits (weF t p) 10) (fun v48 s47 => Q v48 s47) Q x_lim (-1) 0 0 s := by
  obtain ⟨j, hj, e1, e2⟩ := ak_bst (M := am t p) (fun i => mc_le _ _) 19 (by omega)
  have e3 : bst (amF t p) 20 = (nI j, nI (10 - am t p j)) := e2
  refine lp0 (fun n i (_ : Unit) => d7_askOf_L14 (bits (weF t p) 10) (fun v48 s47 => Q v48 s47) Q n (ak (am t p) i).1 (ak (am t p) i).2 (nI i) s) (fun _ _ => True) 20 (by omega) ?_ ?_ () trivial
  · intro n _ _
    rw [d7_askOf_L14]
    refine br_t (Int32.le_refl _) ?_
    rw [e3] at hq
    rw [e1]; exact hq
  · intro n h _ hh _ ih
    have ih := ih () trivial
    rw [d7_askOf_L14]
    refine br_f (nle (a := 20) hh (by omega)) ?_
    have fin : ∀ v33 : Int32, v33 = nI (am t p h) → jn (fun (v36 : Int32) => jn (fun (v39 : Int32) => (v36 = 0 → ∀ v42 : Int32, v42 = nI h + 1 → d7_askOf_L14 (bits (weF t p) 10) (fun v48 s47 => Q v48 s47) Q n v39 (ak (am t p) h).2 v42 s) ∧ (¬ v36 = 0 → ∀ v43 : Int32, v43 = nI h + 1 → d7_askOf_L14 (bits (weF t p) 10) (fun v48 s47 => Q v48 s47) Q n v39 v33 v43 s)) (fun (j40 : Int32 → Prop) => (v36 = 0 → j40 (ak (am t p) h).1) ∧ (¬ v36 = 0 → j40 (nI h)))) (fun (j37 : Int32 → Prop) => ((ak (am t p) h).1 = (-1) → j37 1) ∧ (¬ (ak (am t p) h).1 = (-1) → ((ak (am t p) h).2 ≤ v33 → j37 0) ∧ (¬ (ak (am t p) h).2 ≤ v33 → j37 1))) := by
      intro v33 e33
      subst e33
      rw [ak_s] at ih
      unfold jn
      refine ⟨fun c => ?_, fun c => ⟨fun e => ?_, fun e => ?_⟩⟩
      · rw [if_pos c] at ih
        refine br_f (by decide) (br_f (by decide) ?_)
        intro v e'; rw [nI_1] at e'; subst e'; exact ih
      · rw [if_neg c, if_pos e] at ih
        refine br_t rfl (br_t rfl ?_)
        intro v e'; rw [nI_1] at e'; subst e'; exact ih
      · rw [if_neg c, if_neg e] at ih
        refine br_f (by decide) (br_f (by decide) ?_)
        intro v e'; rw [nI_1] at e'; subst e'; exact ih
    have fin := fin (nI (am t p h)) rfl
    have em : am t p h = mm (weF t p) (wd t p h) 10 := mc_mm _ _
    rw [em] at fin
    exact l7_ask27 hT hp hh hA fin
set_option maxHeartbeats 4000000 in
theorem q_ask {a : Int32} {σ : xSt} (h : RR σ) : d6_ask a σ (fun r s1 => d7_ask a s1 (fun r' s2 => r = r' ∧ RR s2)) := by
  obtain ⟨t, hT, hC, hM⟩ := h
  by_cases c : ∃ j, j < 12 ∧ a = nI j
  rotate_left
  · exact same (D6 := d6_ask a) (D7 := d7_ask a) hT hC hM (a := -2) (fun Q q => l6_placeB c (br_t rfl q)) (fun Q q => l7_placeB c (br_t rfl q))
  obtain ⟨j, hj, e⟩ := c
  subst e
  exact both (D6 := d6_ask (nI j)) (D7 := d7_ask (nI j)) (a := (bst (amF t j) 20).1) hM hT (fun Q hq => l6_isPlace hj (br_f (by decide) (l6_firsts hT hC hj fun s' b k => l6_hourToAsk hT hj b fun s2 k2 => hq s2 (hC.stW (k.tr k2)) (kW_R (k.tr k2))))) fun s1 Q p hq => l7_placeG hj (br_f (by decide) (l7_wets' hT p hj fun s' r p' _ k' => l7_askL hT hj r (hq s' p' k')))
