-- at, damp, crowd, orator
set_option maxHeartbeats 4000000 in
theorem w_case4 {K0 K1 K2 K3 : Prop} {w : Nat} (hw : w < 4) (h : (¬ w = 0 → (¬ w = 1 → (¬ w = 2 → K3) ∧ (w = 2 → K2)) ∧ (w = 1 → K1)) ∧ (w = 0 → K0)) : (¬ nI w = 0 → (¬ nI w = 1 → (¬ nI w = 2 → K3) ∧ (nI w = 2 → K2)) ∧ (nI w = 1 → K1)) ∧ (nI w = 0 → K0) := by
  have e0 : nI w = 0 ↔ w = 0 := nI_eq (b := 0) (by omega) (by omega)
  have e1 : nI w = 1 ↔ w = 1 := nI_eq (b := 1) (by omega) (by omega)
  have e2 : nI w = 2 ↔ w = 2 := nI_eq (b := 2) (by omega) (by omega)
  rw [e0, e1, e2]; exact h
/-- of a member behind an hour -/
def mv (b : Bl) (h k w : Nat) : Int32 := if w = 0 then nI (ps (s_run b (h + 1)) k) else if w = 1 then nI (up (s_run b (h + 1)) k) else if w = 2 then (if h < un (s_run b (h + 1)) k then 1 else 0) else nI (sc (s_run b (h + 1)) k)
set_option maxHeartbeats 4000000 in
theorem l2_ofMember {c h k w : Nat} {b : Bl} {s : xSt} {Q : Int32 → xSt → Prop} (hb : VB b) (n2 : N2 c b 20 s) (hh : h < 20) (hk : k < bm b) (hw : w < 4) (hq : Q (mv b h k w) s) : d2_ofMember c (nI h) (nI k) (nI w) s Q := by
  have x := n2.2 h hh
  have hm := hb.1
  unfold d2_ofMember
  refine l6_isHour hh (br_f (by decide) (br_f (nI_pos (by omega)) (br_f (nle (a := 8) (by omega) (by omega)) ?_)))
  rw [n2.1.1]
  refine br_t (nI_lt hk (by omega)) ?_
  rw [ncl (a := h) (by omega), ncl (a := k) (by omega)]
  unfold mv at hq
  refine w_case4 hw ⟨fun a => ⟨fun b' => ⟨fun c' => ⟨nin hh (by omega), nin (by omega) (by omega), ?_⟩, fun c' => ⟨nin hh (by omega), nin (by omega) (by omega), ?_⟩⟩, fun b' => ⟨nin hh (by omega), nin (by omega) (by omega), ?_⟩⟩, fun a => ⟨nin hh (by omega), nin (by omega) (by omega), ?_⟩⟩
  · rw [if_neg a, if_neg b', if_neg c'] at hq; rw [x.2.2.2.2.2.1 k hk]; exact hq
  · rw [if_neg a, if_neg b', if_pos c'] at hq; rw [x.2.2.2.2.1 k hk]; exact hq
  · rw [if_neg a, if_pos b'] at hq; rw [x.2.2.2.1 k hk]; exact hq
  · rw [if_pos a] at hq; rw [x.2.2.1 k hk]; exact hq
/-- rolled bits -/
def rbN (c : Nat → Bool) (n : Nat) : Nat := it (fun k m => m ||| (if c k = true then 2 ^ k else 0)) n 0
set_option maxHeartbeats 4000000 in
theorem or_lt : ∀ m, m < 256 → ∀ k, k < 8 → m ||| 2 ^ k < 256 ∧ nI m ||| (1 <<< (nI k &&& 31)) = nI (m ||| 2 ^ k) := by decide +kernel
set_option maxHeartbeats 4000000 in
theorem bit_at : ∀ m, m < 256 → ∀ k, k < 8 → (nI m >>> (nI k &&& 31)) &&& 1 = if m.testBit k = true then 1 else 0 := by decide +kernel
set_option maxHeartbeats 4000000 in
theorem rb_eq {c : Nat → Bool} {g : Nat → Int32} (hg : ∀ k, k < 8 → g k = if c k = true then 1 <<< (nI k &&& 31) else 0) : ∀ n, n ≤ 8 → it (fun k w => w ||| g k) n 0 = nI (rbN c n) ∧ rbN c n < 256 := by
  intro n
  induction n with
  | zero => intro _; exact ⟨rfl, by show 0 < 256; omega⟩
  | succ n ih =>
    intro hn
    obtain ⟨e, l⟩ := ih (by omega)
    have o := or_lt (rbN c n) l n (by omega)
    have e2 : rbN c (n + 1) = rbN c n ||| (if c n = true then 2 ^ n else 0) := rfl
    rw [it_succ, e2, hg n (by omega), e]
    cases c n
    · simp only [Bool.false_eq_true, if_false, Nat.or_zero]
      exact ⟨by rw [Int32.or_zero], l⟩
    · simp only [if_true]
      exact ⟨o.2, o.1⟩
set_option maxHeartbeats 4000000 in
theorem rb_bit {c : Nat → Bool} {k : Nat} : ∀ n, (rbN c n).testBit k = (decide (k < n) && c k) := by
  intro n
  induction n with
  | zero => simp [rbN, it]
  | succ n ih =>
    have e2 : rbN c (n + 1) = rbN c n ||| (if c n = true then 2 ^ n else 0) := rfl
    rw [e2, Nat.testBit_or, ih]
    cases d : c n
    · simp only [Bool.false_eq_true, if_false, Nat.zero_testBit, Bool.or_false]
      by_cases q : k = n
      · subst q; simp [d]
      · have : (decide (k < n + 1)) = decide (k < n) := by rw [decide_eq_decide]; omega
        rw [this]
    · simp only [if_true, Nat.testBit_two_pow]
      by_cases q : k = n
      · subst q; simp [d]
      · have : (decide (k < n + 1)) = decide (k < n) := by rw [decide_eq_decide]; omega
        rw [this, show decide (n = k) = false from decide_eq_false (fun z => q z.symm), Bool.or_false]
set_option maxHeartbeats 4000000 in
theorem s_rb_bit {b : Bl} {h k : Nat} {S : Sm} (hb : VB b) (hk : k < bm b) : (s_rb b h S >>> (nI k &&& 31)) &&& 1 = if h < un S k then 1 else 0 := by
  have hm := hb.1
  have e := rb_eq (c := fun k => decide (h < un S k)) (g := fun k => if h < un S k then 1 <<< (nI k &&& 31) else 0) (fun k _ => by simp) (bm b) hm
  have e1 : s_rb b h S = nI (rbN (fun k => decide (h < un S k)) (bm b)) := e.1
  rw [e1, bit_at _ e.2 k (by omega), rb_bit]
  simp [hk]
set_option maxHeartbeats 4000000 in
theorem q_at {a m w : Int32} {σ : xSt} (h : RR σ) : d6_at a m w σ (fun r s1 => d7_at a m w s1 (fun r' s2 => r = r' ∧ RR s2)) := by
  obtain ⟨t, hT, hC, hM⟩ := h
  have hm := t_m_le hT
  have x := hC.1.2.1.1.1
  by_cases c : ∃ j, j < 20 ∧ a = nI j
  rotate_left
  · exact same (D6 := d6_at a m w) (D7 := d7_at a m w) hT hC hM (a := -2) (fun Q q => l6_hourB c (br_t rfl q)) (fun Q q => l7_hourB c (br_t rfl q))
  obtain ⟨j, hj, e⟩ := c
  subst e
  by_cases c : ∃ k, k < t_m t ∧ m = nI k
  rotate_left
  · refine both (D6 := d6_at (nI j) m w) (D7 := d7_at (nI j) m w) (a := -2) hM hT (fun Q hq => l6_isHour hj (br_f (by decide) (l1_hasB x c (br_t rfl (hq σ hC xk.rf))))) fun s1 Q p hq => ?_
    exact l7_hourG hj (br_f (by decide) (l7_isMemberB hT p c fun s' p' k => br_t rfl (hq s' p' k)))
  obtain ⟨k, hk, e⟩ := c
  subst e
  by_cases d : ∃ i, i < 4 ∧ w = nI i
  rotate_left
  · refine both (D6 := d6_at (nI j) (nI k) w) (D7 := d7_at (nI j) (nI k) w) (a := -2) hM hT (fun Q hq => l6_isHour hj (br_f (by decide) (l1_hasG hT x hk (br_f (by decide) ⟨fun _ => hq σ hC xk.rf, fun z => br_f (w_lt0 (n := 3) d (by omega) z) (hq σ hC xk.rf)⟩)))) fun s1 Q p hq => ?_
    exact l7_hourG hj (br_f (by decide) (l7_isMemberG hT p hk fun s' b p' k => br_f (by decide) (l7_inB (n := 3) (by omega) rfl d (br_t rfl (hq s' p' k)))))
  obtain ⟨i, hi, e⟩ := d
  subst e
  refine both (D6 := d6_at (nI j) (nI k) (nI i)) (D7 := d7_at (nI j) (nI k) (nI i)) (a := mv (bt t) j k i) hM hT (fun Q hq => ?_) fun s1 Q p hq => ?_
  · exact l6_isHour hj (br_f (by decide) (l1_hasG hT x hk (br_f (by decide) (br_f (nI_pos (by omega)) (br_t (nI_le (b := 3) (by omega) (by omega)) (l6_chamberAsTold hT hC fun s' p n k5 => l2_ofMember (VB_bt hT) n hj hk hi (hq s' p (kA5_R k5))))))))
  · refine l7_hourG hj (br_f (by decide) (l7_isMemberG hT p hk fun s2 b p2 k2 => br_f (by decide) (l7_inG (n := 3) (by omega) rfl hi (br_f (by decide) ?_))))
    unfold d7_atOf
    refine l7_runsTold hT p2 fun s' n _ p' k' => ?_
    have q := hq s' p' (k2.tr k')
    have x := n.2 j hj
    intro v2 e2
    rw [show (8 : Int32) * nI j + nI k = nI (8 * j + k) by rw [l_8, pk_mul, nI_add]] at e2
    subst e2
    rw [ncl (a := j) (by omega), ncl (a := 8 * j + k) (by omega)]
    unfold mv at q
    refine w_case4 hi ⟨fun a => ⟨fun b' => ⟨fun c' => ⟨nin (by omega) (by omega), ?_⟩, fun c' => ⟨nin hj (by omega), ?_⟩⟩, fun b' => ⟨nin (by omega) (by omega), ?_⟩⟩, fun a => ⟨nin (by omega) (by omega), ?_⟩⟩
    · rw [if_neg a, if_neg b', if_neg c'] at q; rw [x.2.2.1 k hk]; exact q
    · rw [if_neg a, if_neg b', if_pos c'] at q
      unfold d7_isIn
      rw [x.2.2.2.2.1, s_rb_bit (VB_bt hT) hk]
      by_cases z : j < un (s_run (bt t) (j + 1)) k
      · rw [if_pos z] at q ⊢
        exact bn_t rfl (br_f (by decide) q)
      · rw [if_neg z] at q ⊢
        exact bn_f (by decide) (br_t rfl q)
    · rw [if_neg a, if_pos b'] at q; rw [x.2.1 k hk]; exact q
    · rw [if_pos a] at q; rw [x.1 k hk]; exact q
set_option maxHeartbeats 4000000 in
theorem q_damp {a m w : Int32} {σ : xSt} (h : RR σ) : d6_damp a m w σ (fun r s1 => d7_damp a m w s1 (fun r' s2 => r = r' ∧ RR s2)) := by
  obtain ⟨t, hT, hC, hM⟩ := h
  by_cases c : ∃ j, j < 20 ∧ a = nI j
  rotate_left
  · exact same (D6 := d6_damp a m w) (D7 := d7_damp a m w) hT hC hM (a := -2) (fun Q q => l6_hourB c (br_t rfl q)) (fun Q q => l7_hourB c (br_t rfl q))
  obtain ⟨j, hj, e⟩ := c
  subst e
  by_cases c : ∃ k, k < 12 ∧ m = nI k
  rotate_left
  · exact same (D6 := d6_damp (nI j) m w) (D7 := d7_damp (nI j) m w) hT hC hM (a := -2) (fun Q q => l6_isHour hj (br_f (by decide) (l6_placeB c (br_t rfl q)))) (fun Q q => l7_hourG hj (br_f (by decide) (l7_placeB c (br_t rfl q))))
  obtain ⟨k, hk, e⟩ := c
  subst e
  by_cases d : ∃ i, i < 2 ∧ w = nI i
  rotate_left
  · exact same (D6 := d6_damp (nI j) (nI k) w) (D7 := d7_damp (nI j) (nI k) w) hT hC hM (a := -2) (fun Q q => l6_isHour hj (br_f (by decide) (l6_isPlace hk (br_f (by decide) ⟨fun _ => q, fun z => br_f (w_lt0 (n := 1) d (by omega) z) q⟩)))) (fun Q q => l7_hourG hj (br_f (by decide) (l7_placeG hk (br_f (by decide) (l7_inB (n := 1) (by omega) rfl d (br_t rfl q))))))
  obtain ⟨i, hi, e⟩ := d
  subst e
  have e0 : nI i = 0 ↔ i = 0 := nI_eq (b := 0) (by omega) (by omega)
  refine both (D6 := d6_damp (nI j) (nI k) (nI i)) (D7 := d7_damp (nI j) (nI k) (nI i)) (a := if i = 0 then nI (dm (s_run (bt t) (j + 1)) k) else nI (s_heads (bt t) (s_run (bt t) (j + 1)) k)) hM hT (fun Q hq => ?_) fun s1 Q p hq => ?_
  · refine l6_isHour hj (br_f (by decide) (l6_isPlace hk (br_f (by decide) (br_f (nI_pos (by omega)) (br_t (nI_le (b := 1) (by omega) (by omega)) (l6_chamberAsTold hT hC fun s' p n k5 => ?_))))))
    have q := hq s' p (kA5_R k5)
    have x := n.2 j hj
    rw [e0]
    refine ⟨fun a => l6_isHour hj (br_f (by decide) (l6_isPlace hk (br_f (by decide) ⟨nin hj (by omega), nin hk (by omega), ?_⟩))), fun a => l6_isHour hj (br_f (by decide) (l6_isPlace hk (br_f (by decide) ⟨nin hj (by omega), nin hk (by omega), ?_⟩)))⟩
    · rw [if_neg a] at q
      rw [ncl (a := j) (by omega), ncl (a := k) (by omega), x.2.1 k hk]; exact q
    · rw [if_pos a] at q
      rw [ncl (a := j) (by omega), ncl (a := k) (by omega), x.1 k hk]; exact q
  · refine l7_hourG hj (br_f (by decide) (l7_placeG hk (br_f (by decide) (l7_inG (n := 1) (by omega) rfl hi (br_f (by decide) ?_)))))
    unfold d7_dampOf
    refine l7_runsTold hT p fun s' n _ p' k' => ?_
    have q := hq s' p' k'
    have x := n.2 j hj
    rw [e0]
    refine ⟨fun a => ?_, fun a => ?_⟩
    · rw [if_neg a] at q
      exact l7_manyAt (VB_bt hT) (VS.run (VB_bt hT) (j + 1) (by omega)) hj hk n.1.1 x.1 q
    · rw [if_pos a] at q
      rw [show (12 : Int32) * nI j + nI k = nI (12 * j + k) by rw [l_12, pk_mul, nI_add], ncl (a := 12 * j + k) (by omega)]
      refine ⟨nin (by omega) (by omega), ?_⟩
      rw [x.2.2.2.1 k hk]; exact q
