-- calls: type, wipe, undo, fault, stone, member, event, back, seen, forget
set_option maxHeartbeats 4000000 in
theorem badP {a : Int32} {n : Nat} (h : ¬ ∃ j, j < n ∧ a = nI j) : ¬ a < 0 → nI n ≤ a := by
  intro z
  obtain ⟨j, hj, e⟩ := nI_of z
  subst e
  rcases Nat.lt_or_ge j n with c | c
  · exact absurd ⟨j, c, rfl⟩ h
  · exact nI_le c hj
set_option maxHeartbeats 4000000 in
theorem badM {a : Int32} {n : Nat} (hn : n < 1000) (h : ¬ ∃ j, j < n + 1 ∧ a = nI j) : ¬ a < 0 → nI n < a := fun z => Int32.lt_of_lt_of_le (nI_lt (b := n + 1) (by omega) (by omega)) (badP h z)
set_option maxHeartbeats 4000000 in
theorem l6_placeB {a : Int32} {s : xSt} {Q : Int32 → xSt → Prop} (h : ¬ ∃ j, j < 12 ∧ a = nI j) (hq : Q 0 s) : d6_isPlace a s Q := ⟨fun _ => hq, fun z => br_t (badP h z) hq⟩
set_option maxHeartbeats 4000000 in
theorem l6_hourB {a : Int32} {s : xSt} {Q : Int32 → xSt → Prop} (h : ¬ ∃ j, j < 20 ∧ a = nI j) (hq : Q 0 s) : d6_isHour a s Q := ⟨fun _ => hq, fun z => br_t (badP h z) hq⟩
set_option maxHeartbeats 4000000 in
theorem l7_inB {a M : Int32} {n : Nat} {s : xSt} {Q : Int32 → xSt → Prop} (hn : n < 1000) (hM : M = nI n) (h : ¬ ∃ j, j < n + 1 ∧ a = nI j) (hq : Q 0 s) : d7_in a 0 M s Q := l7_in (fun _ => hq) fun z w => absurd (by rw [hM]; exact badM hn h z) w
set_option maxHeartbeats 4000000 in
theorem l7_inG {M : Int32} {j n : Nat} {s : xSt} {Q : Int32 → xSt → Prop} (hn : n < 1000) (hM : M = nI n) (h : j < n + 1) (hq : Q 1 s) : d7_in (nI j) 0 M s Q := l7_in (fun z => by
  rcases z with z | z
  · exact absurd z (nI_pos (by omega))
  · rw [hM] at z; exact absurd z (nlt (by omega) (by omega))) fun _ _ => hq
set_option maxHeartbeats 4000000 in
theorem l7_placeB {a : Int32} {s : xSt} {Q : Int32 → xSt → Prop} (h : ¬ ∃ j, j < 12 ∧ a = nI j) (hq : Q 0 s) : d7_isPlace a s Q := l7_inB (n := 11) (by omega) rfl h hq
set_option maxHeartbeats 4000000 in
theorem l7_hourB {a : Int32} {s : xSt} {Q : Int32 → xSt → Prop} (h : ¬ ∃ j, j < 20 ∧ a = nI j) (hq : Q 0 s) : d7_isHour a s Q := l7_inB (n := 19) (by omega) rfl h hq
set_option maxHeartbeats 4000000 in
theorem l7_placeG {j : Nat} {s : xSt} {Q : Int32 → xSt → Prop} (h : j < 12) (hq : Q 1 s) : d7_isPlace (nI j) s Q := l7_inG (n := 11) (by omega) rfl h hq
set_option maxHeartbeats 4000000 in
theorem l7_hourG {j : Nat} {s : xSt} {Q : Int32 → xSt → Prop} (h : j < 20) (hq : Q 1 s) : d7_isHour (nI j) s Q := l7_inG (n := 19) (by omega) rfl h hq
set_option maxHeartbeats 4000000 in
theorem l6_textOf {a : Int32} {s : xSt} {K : Option Nat → xSt → Prop} (q0 : K none s) (q1 : K (some 1) s) (q2 : K (some 2) s) : d6_textOf a s K := ⟨fun _ => ⟨fun _ => q0, fun _ => q2⟩, fun _ => q1⟩
set_option maxHeartbeats 4000000 in
theorem q_type {a b : Int32} {σ : xSt} (h : RR σ) : d6_type a b σ (fun r s1 => d7_type a b s1 (fun r' s2 => r = r' ∧ RR s2)) := by
  obtain ⟨t, hT, hC, hM⟩ := h
  have n0 := hT.1
  have n1 := hT.2.1
  by_cases hb : ¬ b < 0 ∧ b ≤ 255
  rotate_left
  · refine same (D6 := d6_type a b) (D7 := d7_type a b) hT hC hM (a := -2) (fun Q q => ?_) (fun Q q => ?_)
    · refine l6_textOf ⟨fun _ => q, fun ob e => by cases e⟩ ⟨fun e => (by cases e), fun ob e hcl => ⟨fun _ => q, fun z => ⟨fun w => absurd ⟨z, w⟩ hb, fun _ => q⟩⟩⟩ ⟨fun e => (by cases e), fun ob e hcl => ⟨fun _ => q, fun z => ⟨fun w => absurd ⟨z, w⟩ hb, fun _ => q⟩⟩⟩
    · unfold d7_type d7_isText
      exact l7_in (fun _ => br_t rfl q) fun _ _ => br_f (by decide) (l7_in (fun _ => bn_t rfl q) fun x y => absurd ⟨x, Int32.not_lt.mp y⟩ hb)
  by_cases a0 : a = 0
  · subst a0
    by_cases c : tn0 t < 12
    · exact both (D6 := d6_type 0 b) (D7 := d7_type 0 b) hM (VT_tx hT (by omega) n1) (fun Q hq => c_type0 hT hC hb.1 hb.2 c hq) fun s1 Q p hq => m_type0 hT p hb.1 hb.2 c hq
    · refine same (D6 := d6_type 0 b) (D7 := d7_type 0 b) hT hC hM (a := -4) (fun Q q => ?_) (fun Q q => ?_)
      · have x := hC.1.1
        unfold d6_type d6_textOf d5_append
        refine bn_t rfl ⟨fun e => (by cases e), fun ob e hcl => ?_⟩
        cases e
        refine br_f hb.1 (br_t hb.2 ?_)
        rw [x.1]
        exact br_f (nI_pos (by omega)) (br_f (nlt (b := 12) (by omega) (by omega)) (bn_t rfl q))
      · have x := hM.1
        unfold d7_type d7_isText
        refine l7_in (fun z => absurd z (by decide)) fun _ _ => br_f (by decide) (l7_in (fun z => ?_) fun _ _ => ?_)
        · rcases z with z | z
          · exact absurd z hb.1
          · exact absurd z (Int32.not_lt.mpr hb.2)
        refine bn_f (by decide) ?_
        rw [z0, x.1]
        refine ⟨v02, ?_⟩
        unfold jn
        exact bn_t rfl (bn_t (by rw [show tn0 t = 12 by omega]; rfl) q)
  by_cases a1 : a = 1
  · subst a1
    by_cases c : tn1 t < 31
    · exact both (D6 := d6_type 1 b) (D7 := d7_type 1 b) hM (VT_tx hT n0 (by omega)) (fun Q hq => c_type1 hT hC hb.1 hb.2 c hq) fun s1 Q p hq => m_type1 hT p hb.1 hb.2 c hq
    · refine same (D6 := d6_type 1 b) (D7 := d7_type 1 b) hT hC hM (a := -4) (fun Q q => ?_) (fun Q q => ?_)
      · have x := hC.1.1
        unfold d6_type d6_textOf d5_append
        refine bn_f (by decide) (bn_t rfl ⟨fun e => (by cases e), fun ob e hcl => ?_⟩)
        cases e
        refine br_f hb.1 (br_t hb.2 ?_)
        rw [x.2.2.1]
        exact br_f (nI_pos (by omega)) (br_f (nlt (b := 31) (by omega) (by omega)) (bn_t rfl q))
      · have x := hM.1
        unfold d7_type d7_isText
        refine l7_in (fun z => absurd z (by decide)) fun _ _ => br_f (by decide) (l7_in (fun z => ?_) fun _ _ => ?_)
        · rcases z with z | z
          · exact absurd z hb.1
          · exact absurd z (Int32.not_lt.mpr hb.2)
        refine bn_f (by decide) ?_
        rw [z1, x.2.2.1]
        refine ⟨v12, ?_⟩
        unfold jn
        exact bn_f (by decide) (bn_t (by rw [show tn1 t = 31 by omega]; rfl) q)
  · refine same (D6 := d6_type a b) (D7 := d7_type a b) hT hC hM (a := -2) (fun Q q => ?_) (fun Q q => ?_)
    · unfold d6_type d6_textOf
      exact bn_f a0 (bn_f a1 ⟨fun _ => q, fun ob e => by cases e⟩)
    · unfold d7_type
      exact l7_notext a0 a1 (br_t rfl q)
set_option maxHeartbeats 4000000 in
theorem q_wipe {a : Int32} {σ : xSt} (h : RR σ) : d6_wipe a σ (fun r s1 => d7_wipe a s1 (fun r' s2 => r = r' ∧ RR s2)) := by
  obtain ⟨t, hT, hC, hM⟩ := h
  by_cases a0 : a = 0
  · subst a0
    exact both (D6 := d6_wipe 0) (D7 := d7_wipe 0) hM (VT_tx hT (by omega) hT.2.1) (fun Q hq => c_wipe0 hT hC hq) fun s1 Q p hq => m_wipe0 hT p hq
  by_cases a1 : a = 1
  · subst a1
    exact both (D6 := d6_wipe 1) (D7 := d7_wipe 1) hM (VT_tx hT hT.1 (by omega)) (fun Q hq => c_wipe1 hT hC hq) fun s1 Q p hq => m_wipe1 hT p hq
  refine same (D6 := d6_wipe a) (D7 := d7_wipe a) hT hC hM (a := -2) (fun Q q => ?_) (fun Q q => ?_)
  · unfold d6_wipe d6_textOf
    exact bn_f a0 (bn_f a1 ⟨fun _ => q, fun ob e => by cases e⟩)
  · unfold d7_wipe
    exact l7_notext a0 a1 (bn_t rfl q)
set_option maxHeartbeats 4000000 in
theorem q_undo {a : Int32} {σ : xSt} (h : RR σ) : d6_undo a σ (fun r s1 => d7_undo a s1 (fun r' s2 => r = r' ∧ RR s2)) := by
  obtain ⟨t, hT, hC, hM⟩ := h
  have n0 := hT.1
  have n1 := hT.2.1
  by_cases a0 : a = 0
  · subst a0
    rcases Nat.eq_zero_or_pos (tn0 t) with c | c
    · refine same (D6 := d6_undo 0) (D7 := d7_undo 0) hT hC hM (a := -3) (fun Q q => ?_) (fun Q q => ?_)
      · unfold d6_undo d6_textOf d5_size
        refine bn_t rfl ⟨fun e => (by cases e), fun ob e hcl => ?_⟩
        cases e
        exact bn_t (by rw [hC.1.1.1, c]; rfl) q
      · unfold d7_undo d7_isText
        refine l7_in (fun z => absurd z (by decide)) fun _ _ => bn_f (by decide) ⟨v02, bn_t ?_ q⟩
        rw [z0, hM.1.1, c]; rfl
    · exact both (D6 := d6_undo 0) (D7 := d7_undo 0) hM (VT_tx hT (by omega) hT.2.1) (fun Q hq => c_undo0 hT hC c hq) fun s1 Q p hq => m_undo0 hT p c hq
  by_cases a1 : a = 1
  · subst a1
    rcases Nat.eq_zero_or_pos (tn1 t) with c | c
    · refine same (D6 := d6_undo 1) (D7 := d7_undo 1) hT hC hM (a := -3) (fun Q q => ?_) (fun Q q => ?_)
      · unfold d6_undo d6_textOf d5_size
        refine bn_f (by decide) (bn_t rfl ⟨fun e => (by cases e), fun ob e hcl => ?_⟩)
        cases e
        exact bn_t (by rw [hC.1.1.2.2.1, c]; rfl) q
      · unfold d7_undo d7_isText
        refine l7_in (fun z => absurd z (by decide)) fun _ _ => bn_f (by decide) ⟨v12, bn_t ?_ q⟩
        rw [z1, hM.1.2.2.1, c]; rfl
    · exact both (D6 := d6_undo 1) (D7 := d7_undo 1) hM (VT_tx hT hT.1 (by omega)) (fun Q hq => c_undo1 hT hC c hq) fun s1 Q p hq => m_undo1 hT p c hq
  refine same (D6 := d6_undo a) (D7 := d7_undo a) hT hC hM (a := -2) (fun Q q => ?_) (fun Q q => ?_)
  · unfold d6_undo d6_textOf
    exact bn_f a0 (bn_f a1 ⟨fun _ => q, fun ob e => by cases e⟩)
  · unfold d7_undo
    exact l7_notext a0 a1 (bn_t rfl q)
set_option maxHeartbeats 4000000 in
theorem PM.str {t : Td} {s s1 : xSt} (h : PM t s) (k : xk k7r s s1) : PM t s1 := h.keep k (fun a c q => by
  simp only [kM, k7r, Bool.not_eq_true', Bool.and_eq_false_iff, Bool.or_eq_false_iff, beq_eq_false_iff_ne, decide_eq_false_iff_not, Bool.or_eq_true, Bool.and_eq_true, beq_iff_eq, decide_eq_true_eq] at q ⊢
  omega)
set_option maxHeartbeats 4000000 in
theorem q_fault {a : Int32} {σ : xSt} (h : RR σ) : d6_fault a σ (fun r s1 => d7_fault a s1 (fun r' s2 => r = r' ∧ RR s2)) := by
  obtain ⟨t, hT, hC, hM⟩ := h
  by_cases a0 : a = 0
  · subst a0
    refine both (D6 := d6_fault 0) (D7 := d7_fault 0) (a := ft0 t) hM hT (fun Q hq => ?_) fun s1 Q p hq => ?_
    · exact bn_t rfl (l6_faultOfStone hT hC.1.1 (hq σ hC xk.rf))
    · unfold d7_fault d7_isText
      exact l7_in (fun z => absurd z (by decide)) fun _ _ => br_f (by decide) (l7_faultOf hT p.1 fun s' h1 h2 h3 => bn_t rfl (hq s' (p.str h3) (k7r_S h3)))
  by_cases a1 : a = 1
  · subst a1
    refine both (D6 := d6_fault 1) (D7 := d7_fault 1) (a := ft1 t) hM hT (fun Q hq => ?_) fun s1 Q p hq => ?_
    · exact bn_f (by decide) (bn_t rfl (l6_faultOfMembers hT hC.1.1 (hq σ hC xk.rf)))
    · unfold d7_fault d7_isText
      exact l7_in (fun z => absurd z (by decide)) fun _ _ => br_f (by decide) (l7_faultOf hT p.1 fun s' h1 h2 h3 => bn_f (by decide) (hq s' (p.str h3) (k7r_S h3)))
  exact same (D6 := d6_fault a) (D7 := d7_fault a) hT hC hM (a := -2) (fun Q q => bn_f a0 (bn_f a1 q)) (fun Q q => l7_notext a0 a1 (br_t rfl q))
set_option maxHeartbeats 4000000 in
theorem q_stone {a : Int32} {σ : xSt} (h : RR σ) : d6_stone a σ (fun r s1 => d7_stone a s1 (fun r' s2 => r = r' ∧ RR s2)) := by
  obtain ⟨t, hT, hC, hM⟩ := h
  by_cases c : ∃ j, j < 12 ∧ a = nI j
  · obtain ⟨j, hj, e⟩ := c
    subst e
    refine both (D6 := d6_stone (nI j)) (D7 := d7_stone (nI j)) (a := nI (t_dm t j)) hM hT (fun Q hq => ?_) fun s1 Q p hq => ?_
    · unfold d6_stone d1_dampAt
      refine l6_isPlace hj (br_f (by decide) (l6_isPlace hj (br_f (by decide) ⟨nin hj (by omega), ?_⟩)))
      rw [ncl (by omega), hC.1.2.1.2 j hj]; exact hq σ hC xk.rf
    · unfold d7_stone d7_stoneOf
      refine l7_placeG hj (br_f (by decide) (l7_reads hT p.1 fun s' h1 h2 h3 => ⟨nin hj (by omega), ?_⟩))
      rw [ncl (by omega), h1.2.2.1 j hj]; exact hq s' (p.str h3) (k7r_S h3)
  · exact same (D6 := d6_stone a) (D7 := d7_stone a) hT hC hM (a := -2) (fun Q q => l6_placeB c (br_t rfl q)) (fun Q q => l7_placeB c (br_t rfl q))
