-- ages, over any row of seeds
def lo (v c : Int32) : Int32 := sh v - sh v / c * c
set_option maxHeartbeats 4000000 in
theorem lo_nat {v c : Int32} {m : Nat} (hc : c = nI m) (h0 : 0 < m) (hm : m < 1000) : lo v c = nI (lo v c).toNatClampNeg ∧ (lo v c).toNatClampNeg < m := by
  obtain ⟨x, hx, e⟩ := sh_nat v
  have e2 : lo v c = nI (x % m) := by unfold lo; rw [e, hc]; exact pk_rem (by omega) h0 (by omega)
  have lt := Nat.mod_lt x h0
  rw [e2, ncl (by omega)]
  exact ⟨rfl, lt⟩
set_option maxHeartbeats 4000000 in
theorem rec_ex (F : Int32 → Int32) (s : Int32) : ∃ z x y w : Nat → Int32, z 0 = s ∧ ∀ i, x i = F (z i) ∧ y i = F (x i) ∧ w i = F (y i) ∧ z (i + 1) = w i :=
  ⟨fun i => it (fun _ v => F (F (F v))) i s, fun i => F (it (fun _ v => F (F (F v))) i s), fun i => F (F (it (fun _ v => F (F (F v))) i s)), fun i => F (F (F (it (fun _ v => F (F (F v))) i s))), rfl, fun _ => ⟨rfl, rfl, rfl, rfl⟩⟩
/-- rows of seeds and what they draw -/
def AG (z x y w : Nat → Int32) (g : Nat → Ev) : Prop := (∀ i, x i = 1103515245 * z i + 12345 ∧ y i = 1103515245 * x i + 12345 ∧ w i = 1103515245 * y i + 12345 ∧ z (i + 1) = w i) ∧ (∀ i, lo (x i) 4 = nI (g i).1 ∧ lo (y i) 20 = nI (g i).2.1 ∧ lo (w i) 12 = nI (g i).2.2) ∧ (∀ i, (g i).1 < 4 ∧ (g i).2.1 < 20 ∧ (g i).2.2 < 12)
set_option maxHeartbeats 4000000 in
theorem AG_ex (s : Int32) : ∃ z x y w g, z 0 = s ∧ AG z x y w g := by
  obtain ⟨z, x, y, w, h0, h⟩ := rec_ex (fun v => 1103515245 * v + 12345) s
  refine ⟨z, x, y, w, fun i => ((lo (x i) 4).toNatClampNeg, (lo (y i) 20).toNatClampNeg, (lo (w i) 12).toNatClampNeg), h0, h, fun i => ?_, fun i => ?_⟩
  · exact ⟨(lo_nat (m := 4) rfl (by omega) (by omega)).1, (lo_nat (m := 20) rfl (by omega) (by omega)).1, (lo_nat (m := 12) rfl (by omega) (by omega)).1⟩
  · exact ⟨(lo_nat (m := 4) rfl (by omega) (by omega)).2, (lo_nat (m := 20) rfl (by omega) (by omega)).2, (lo_nat (m := 12) rfl (by omega) (by omega)).2⟩
def b_a (t : Td) (g : Nat → Ev) (n : Nat) : Bl := sB (bt t) ((List.range n).map g)
set_option maxHeartbeats 4000000 in
theorem VB_a {t : Td} {g : Nat → Ev} {n : Nat} (hT : VT t) (hg : ∀ i, (g i).1 < 4 ∧ (g i).2.1 < 20 ∧ (g i).2.2 < 12) : VB (b_a t g n) := by
  have h := VB_bt hT
  refine ⟨h.1, h.2.1, h.2.2.1, h.2.2.2.1, h.2.2.2.2.1, fun e he => ?_⟩
  have he : e ∈ (List.range n).map g := he
  obtain ⟨j, hj, q⟩ := List.mem_map.mp he
  subst q
  exact hg j
set_option maxHeartbeats 4000000 in
theorem l6_lot {v c : Int32} {s : xSt} {Q : Int32 → xSt → Prop} (h0 : ¬ c ≤ 0) (h1 : ¬ c = 0) (hq : Q (lo v c) s) : d6_lot v c s Q := br_f h0 ⟨h1, hq⟩
set_option maxHeartbeats 4000000 in
theorem l6_sitAges {t : Td} {z x y w : Nat → Int32} {g : Nat → Ev} {n : Nat} {s : xSt} {Q : xSt → Prop} (hA : AG z x y w g) (hT : VT t) (hC : PC t s) (hn : n ≤ 8) (hq : ∀ s', N2 6 (b_a t g n) 20 s' → xk kX s s' → Q s') : d6_sitAges (z 0) (nI n) s Q := by
  unfold d6_sitAges
  refine l1_takeAll hT hC.1 fun s1 c1 k1 => ?_
  unfold d1_dropEvents
  intro s2 e2
  have e8 : (if (0 : Int32) < (if xI s1 4 8 < 0 then xI s1 4 8 else 0) then (if xI s1 4 8 < 0 then xI s1 4 8 else 0) else 0) = 0 := by
    rw [c1.2.2.2.2.2.1]
    exact cut (k := 0) (by omega) (by have := len_bt hT; have := hT.2.2.1; omega)
  rw [e8] at e2
  have k2 : xk k4e s1 s2 := by subst e2; exact xk.rf.sI rfl
  have l2 : EL 4 ((List.range 0).map g) s2 := by subst e2; exact ⟨xI_xsI_eq _ _ _ _, fun e he => absurd he (Nat.not_lt_zero e)⟩
  clear e2 e8
  refine lp0 (fun m i s3 => d6_sitAges_L24 (nI n) _ Q m (z i) (nI i) s3) (fun i s3 => EL 4 ((List.range i).map g) s3 ∧ xk k4e s1 s3) n (by omega) ?_ ?_ s2 ⟨l2, k2⟩
  · intro m s3 ⟨h1, h2⟩
    rw [d6_sitAges_L24]
    refine br_t (Int32.le_refl _) ?_
    have c3 : CL 4 (b_a t g n) s3 := ⟨by rw [h2.1 4 4 rfl]; exact c1.1, by rw [h2.2.1 4 1 rfl]; exact c1.2.1, by rw [h2.2.1 4 0 rfl]; exact c1.2.2.1, by rw [h2.2.1 4 2 rfl]; exact c1.2.2.2.1, by rw [h2.2.1 4 3 rfl]; exact c1.2.2.2.2.1, h1⟩
    refine l2_trial (VB_a hT hA.2.2) ?_ c3 fun s' n' k' => hq s' n' ((k4_X (k1.tr (k4e_4 h2))).tr (kw6_X k'))
    show ((List.range n).map g).length ≤ 9
    rw [List.length_map, List.length_range]; omega
  · intro m i s3 hi ⟨h1, h2⟩ ih
    obtain ⟨hx, hy, hw, hz⟩ := hA.1 i
    obtain ⟨g1, g2, g3⟩ := hA.2.1 i
    rw [d6_sitAges_L24]
    refine br_f (nle hi (by omega)) (br_f (nle (a := 8) (by omega) (by omega)) ?_)
    simp only [d6_nextSeed]
    rw [← hx, ← hy, ← hw]
    refine l6_lot (by decide) (by decide) (l6_lot (by decide) (by decide) (l6_lot (by decide) (by decide) ?_))
    refine l1_addEv (v := g i) h1 (by rw [List.length_map, List.length_range]; omega) g1 g2 g3 fun s4 p4 k4' => ?_
    intro v18 e18
    rw [nI_1] at e18
    subst e18
    rw [← hz]
    refine ih s4 ⟨?_, h2.tr k4'⟩
    rw [List.range_succ, List.map_append]; exact p4
def k715 (t o k : Nat) : Bool := !(o == 13 && (t == 1 && decide (13 ≤ k) && decide (k ≤ 15)))
set_option maxHeartbeats 4000000 in
theorem l7_agesL {z x y w : Nat → Int32} {g : Nat → Ev} {a3 : Int32} {n : Nat} {s : xSt} {Q : Int32 → xSt → Prop} {K : xSt → Prop} (hA : AG z x y w g) (hn : n ≤ 8) (hq : ∀ s', (∀ e, e < n → xA s' 13 13 e = nI (g e).1) → (∀ e, e < n → xA s' 13 14 e = nI (g e).2.1) → (∀ e, e < n → xA s' 13 15 e = nI (g e).2.2) → xk k715 s s' → K s') : d7_agesOf_L15 (nI n) a3 K Q x_lim (z 0) 0 s := by
  refine lp0 (fun m i s2 => d7_agesOf_L15 (nI n) a3 K Q m (z i) (nI i) s2) (fun i s2 => (∀ e, e < i → xA s2 13 13 e = nI (g e).1) ∧ (∀ e, e < i → xA s2 13 14 e = nI (g e).2.1) ∧ (∀ e, e < i → xA s2 13 15 e = nI (g e).2.2) ∧ xk k715 s s2) n (by omega) ?_ ?_ s ⟨fun _ q => by omega, fun _ q => by omega, fun _ q => by omega, xk.rf⟩
  · intro m s2 ⟨g1, g2, g3, g4⟩
    rw [d7_agesOf_L15]
    exact br_t (Int32.le_refl _) (hq s2 g1 g2 g3 g4)
  · intro m i s2 hi ⟨g1, g2, g3, g4⟩ ih
    obtain ⟨hx, hy, hw, hz⟩ := hA.1 i
    obtain ⟨q1, q2, q3⟩ := hA.2.1 i
    rw [d7_agesOf_L15, ncl (by omega)]
    refine br_f (nle hi (by omega)) ?_
    intro v4 e4
    rw [← hx] at e4
    subst e4
    refine ⟨by decide, nin (by omega) (by omega), ?_⟩
    intro s7 e7 v8 e8
    rw [← hy] at e8
    subst e8
    refine ⟨by decide, nin (by omega) (by omega), ?_⟩
    intro s11 e11 v12 e12
    rw [← hw] at e12
    subst e12
    refine ⟨by decide, nin (by omega) (by omega), ?_⟩
    intro s15 e15 v16 e16
    have e7 : s7 = xuA s2 13 13 i (lo (x i) 4) := e7
    have e11 : s11 = xuA s7 13 14 i (lo (y i) 20) := e11
    have e15 : s15 = xuA s11 13 15 i (lo (w i) 12) := e15
    rw [nI_1] at e16
    subst e16 e15 e11 e7
    rw [← hz]
    refine ih _ ⟨?_, ?_, ?_, ((g4.uA rfl).uA rfl).uA rfl⟩
    · rw [xA_xuA_ne (by decide), xA_xuA_ne (by decide), xA_xuA_eq]
      exact arow (g := fun e => (g e).1) g1 q1
    · rw [xA_xuA_ne (by decide), xA_xuA_eq, xA_xuA_ne (by decide)]
      exact arow (g := fun e => (g e).2.1) g2 q2
    · rw [xA_xuA_eq, xA_xuA_ne (by decide), xA_xuA_ne (by decide), hz]
      exact arow (g := fun e => (g e).2.2) g3 q3
set_option maxHeartbeats 4000000 in
theorem q_ages {a m w : Int32} {σ : xSt} (h : RR σ) : d6_ages a m w σ (fun r s1 => d7_ages a m w s1 (fun r' s2 => r = r' ∧ RR s2)) := by
  obtain ⟨t, hT, hC, hM⟩ := h
  obtain ⟨z, x, y, u, g, h0, hA⟩ := AG_ex a
  subst h0
  by_cases c : ∃ j, j < 9 ∧ m = nI j
  rotate_left
  · exact same (D6 := d6_ages (z 0) m w) (D7 := d7_ages (z 0) m w) hT hC hM (a := -2) (fun Q q => ⟨fun _ => q, fun z => br_t (badM (n := 8) (by omega) c z) q⟩) (fun Q q => l7_inB (n := 8) (by omega) rfl c (br_t rfl q))
  obtain ⟨n, hn, e⟩ := c
  subst e
  by_cases d : ∃ i, i < 2 ∧ w = nI i
  rotate_left
  · exact same (D6 := d6_ages (z 0) (nI n) w) (D7 := d7_ages (z 0) (nI n) w) hT hC hM (a := -2) (fun Q q => br_f (nI_pos (by omega)) (br_f (show ¬ nI 8 < nI n from nlt (by omega) (by omega)) ⟨fun _ => q, fun z => br_f (w_lt0 (n := 1) d (by omega) z) q⟩)) (fun Q q => l7_inG (n := 8) (by omega) rfl hn (br_f (by decide) (l7_inB (n := 1) (by omega) rfl d (br_t rfl q))))
  obtain ⟨i, hi, e⟩ := d
  subst e
  have e0 : nI i = 0 ↔ i = 0 := nI_eq (b := 0) (by omega) (by omega)
  refine both (D6 := d6_ages (z 0) (nI n) (nI i)) (D7 := d7_ages (z 0) (nI n) (nI i)) (a := if i = 0 then nI (carN (b_a t g n) 20) else nI (govN (b_a t g n) 19)) hM hT (fun Q hq => ?_) fun s1 Q p hq => ?_
  · refine br_f (nI_pos (by omega)) (br_f (show ¬ nI 8 < nI n from nlt (by omega) (by omega)) (br_f (nI_pos (by omega)) (br_t (nI_le (b := 1) (by omega) (by omega)) (l6_sitAges hA hT hC (by omega) fun s' n2 k => ?_))))
    have q := hq s' (hC.stX k) (kX_R k)
    rw [e0]
    refine ⟨fun x => l2_governmentsInAll (VB_a hT hA.2.2) n2 ?_, fun x => l2_carriedInAll (VB_a hT hA.2.2) n2 ?_⟩
    · rw [if_neg x] at q; exact q
    · rw [if_pos x] at q; exact q
  · refine l7_inG (n := 8) (by omega) rfl hn (br_f (by decide) (l7_inG (n := 1) (by omega) rfl hi (br_f (by decide) ?_)))
    unfold d7_agesOf
    refine l7_asTold hT p fun s2 b2 e2 _ p2 k2 => ?_
    intro s3 e3
    have k3 : xk kE7 s2 s3 := by subst e3; exact xk.rf.sI rfl
    have i3 : xI s3 13 12 = nI n := by subst e3; exact xI_xsI_eq _ _ _ _
    have j3 : xI s3 13 16 = 0 := by subst e3; rw [xI_xsI_ne (by decide)]; exact e2.2.2
    clear e3
    refine l7_agesL hA (by omega) fun s4 g1 g2 g3 k4' => ?_
    have k4 : xk kE7 s3 s4 := k4'.mono (fun t o k q => by
      simp only [kE7, k715, Bool.not_eq_true', Bool.and_eq_false_iff, Bool.or_eq_false_iff, beq_eq_false_iff_ne, decide_eq_false_iff_not] at q ⊢
      omega)
    have kk := k3.tr k4
    have b4 : B7 (b_a t g n) s4 := b2.keep kk rfl rfl rfl rfl rfl
    have e4 : E7 (b_a t g n) s4 := by
      refine ⟨n, g, fun _ => false, by omega, by rw [k4'.1 13 12 rfl]; exact i3, fun e he => ⟨g1 e he, g2 e he, g3 e he⟩, fun e he => ?_, ?_, fun e _ => hA.2.2 e⟩
      · rw [k4'.1 13 16 rfl, j3]
        exact ⟨fun q => absurd q (no_ev e (by omega)), fun q => by cases q⟩
      · show List.map g (List.range n) = List.map g (List.filter (fun _ => true) (List.range n))
        rw [(List.filter_eq_self (p := fun _ => true)).mpr (fun _ _ => rfl)]
    refine l7_runs (VB_a hT hA.2.2) b4 e4 fun s5 n5 k5 => ?_
    have q := hq s5 ((p2.stT (kE7_T kk)).st7 k5) (((kT7_S k2).tr (kT7_S (kE7_T kk))).tr (kr7_S k5))
    rw [e0]
    refine ⟨fun x => l7_governmentsNow (VB_a hT hA.2.2) n5 ?_, fun x => l7_carriedNow (VB_a hT hA.2.2) n5 ?_⟩
    · rw [if_neg x] at q; exact q
    · rw [if_pos x] at q; exact q
