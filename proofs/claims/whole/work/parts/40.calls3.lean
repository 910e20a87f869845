def evb (a b c : Int32) : Bool := (decide (0 ≤ a) && decide (a < 4)) && ((decide (0 ≤ b) && decide (b < 20)) && (decide (0 ≤ c) && decide (c < 12)))
def evo (a b c : Int32) : Ev := (a.toNatClampNeg, b.toNatClampNeg, c.toNatClampNeg)
set_option maxHeartbeats 4000000 in
theorem in_of {a : Int32} {n : Nat} (hn : n < 1000) (h0 : 0 ≤ a) (h1 : a < nI n) : a = nI a.toNatClampNeg ∧ a.toNatClampNeg < n := by
  obtain ⟨j, hj, e⟩ := nI_of (Int32.not_lt.mpr h0)
  subst e
  rw [ncl hj]
  refine ⟨rfl, ?_⟩
  rcases Nat.lt_or_ge j n with c | c
  · exact c
  · exact absurd h1 (nlt c hj)
set_option maxHeartbeats 4000000 in
theorem out_of {a : Int32} {n : Nat} (hn : n < 1000) (h : ¬ (0 ≤ a ∧ a < nI n)) : ¬ ∃ j, j < n ∧ a = nI j := by
  rintro ⟨j, hj, e⟩
  subst e
  exact h ⟨nI_pos' (by omega), nI_lt hj (by omega)⟩
set_option maxHeartbeats 4000000 in
theorem evb_t {a b c : Int32} (h : evb a b c = true) : ((evo a b c).1 < 4 ∧ (evo a b c).2.1 < 20 ∧ (evo a b c).2.2 < 12) ∧ a = nI (evo a b c).1 ∧ b = nI (evo a b c).2.1 ∧ c = nI (evo a b c).2.2 := by
  simp only [evb, Bool.and_eq_true, decide_eq_true_eq] at h
  have x := in_of (n := 4) (by omega) h.1.1 h.1.2
  have y := in_of (n := 20) (by omega) h.2.1.1 h.2.1.2
  have z := in_of (n := 12) (by omega) h.2.2.1 h.2.2.2
  exact ⟨⟨x.2, y.2, z.2⟩, x.1, y.1, z.1⟩
set_option maxHeartbeats 4000000 in
theorem evb_f {a b c : Int32} (h : evb a b c = false) : (¬ ∃ j, j < 4 ∧ a = nI j) ∨ (∃ j, j < 4 ∧ a = nI j) ∧ ((¬ ∃ j, j < 20 ∧ b = nI j) ∨ (∃ j, j < 20 ∧ b = nI j) ∧ ¬ ∃ j, j < 12 ∧ c = nI j) := by
  by_cases x : 0 ≤ a ∧ a < nI 4
  rotate_left
  · exact Or.inl (out_of (by omega) x)
  have x2 := in_of (n := 4) (by omega) x.1 x.2
  refine Or.inr ⟨⟨_, x2.2, x2.1⟩, ?_⟩
  by_cases y : 0 ≤ b ∧ b < nI 20
  rotate_left
  · exact Or.inl (out_of (by omega) y)
  have y2 := in_of (n := 20) (by omega) y.1 y.2
  refine Or.inr ⟨⟨_, y2.2, y2.1⟩, out_of (by omega) fun z => ?_⟩
  have : evb a b c = true := by
    simp only [evb, Bool.and_eq_true, decide_eq_true_eq]
    exact ⟨x, y, z⟩
  rw [this] at h; cases h
def ev_t (t : Td) (a b c : Int32) : Td := if evb a b c = true ∧ tne t < 8 then te t (tne t + 1) (eup (tg t) (tne t) (evo a b c)) else t
def ev_r (t : Td) (a b c : Int32) : Int32 := if evb a b c = true then (if tne t < 8 then nI (tne t + 1) else -4) else -2
set_option maxHeartbeats 4000000 in
theorem VT_ev {t : Td} {a b c : Int32} (h : VT t) : VT (ev_t t a b c) := by
  unfold ev_t
  split
  · rename_i q
    exact VT_te h q.2 (evb_t q.1).1
  · exact h
set_option maxHeartbeats 4000000 in
theorem c_eventF {t : Td} {v : Ev} {s : xSt} {Q : Int32 → xSt → Prop} (h : PC t s) (hv : v.1 < 4 ∧ v.2.1 < 20 ∧ v.2.2 < 12) (hn : tne t = 8) (hq : Q (-4) s) : d6_event (nI v.1) (nI v.2.1) (nI v.2.2) s Q := by
  unfold d6_event
  refine br_f (nI_pos (by omega)) (br_f (nle (a := 4) (by omega) (by omega)) (l6_isHour hv.2.1 (br_f (by decide) (l6_isPlace hv.2.2 (bn_f (by decide) ?_)))))
  rw [h.1.2.2.1.1, hn]
  exact br_f (by decide) hq
set_option maxHeartbeats 4000000 in
theorem m_eventF {t : Td} {v : Ev} {s : xSt} {Q : Int32 → xSt → Prop} (h : PM t s) (hv : v.1 < 4 ∧ v.2.1 < 20 ∧ v.2.2 < 12) (hn : tne t = 8) (hq : Q (-4) s) : d7_event (nI v.1) (nI v.2.1) (nI v.2.2) s Q := by
  unfold d7_event
  refine l7_inG (n := 3) (by omega) rfl (by omega) (br_f (by decide) (l7_hourG hv.2.1 (br_f (by decide) (l7_placeG hv.2.2 (bn_f (by decide) ?_)))))
  rw [h.2.1.1, hn]
  exact bn_t rfl hq
set_option maxHeartbeats 4000000 in
theorem c_ev {t : Td} {a b c : Int32} {s : xSt} {Q : Int32 → xSt → Prop} (hT : VT t) (h : PC t s) (hq : ∀ s', PC (ev_t t a b c) s' → xk kR s s' → Q (ev_r t a b c) s') : d6_event a b c s Q := by
  unfold ev_t ev_r at hq
  have hn := hT.2.2.1
  cases e : evb a b c
  · rw [e] at hq
    simp only [Bool.false_eq_true, false_and, if_false] at hq
    have q := hq s h xk.rf
    unfold d6_event
    rcases evb_f e with x | ⟨⟨j, hj, x⟩, y⟩
    · exact ⟨fun _ => q, fun z => br_t (badP x z) q⟩
    · subst x
      refine br_f (nI_pos (by omega)) (br_f (nle (a := 4) hj (by omega)) ?_)
      rcases y with y | ⟨⟨i, hi, y⟩, z⟩
      · exact l6_hourB y (br_t rfl q)
      · subst y
        exact l6_isHour hi (br_f (by decide) (l6_placeB z (bn_t rfl q)))
  · have g := evb_t e
    rw [e] at hq
    by_cases n8 : tne t < 8
    · rw [if_pos ⟨rfl, n8⟩, if_pos rfl, if_pos n8] at hq
      have k := c_event (v := evo a b c) h g.1 n8 hq
      rw [← g.2.1, ← g.2.2.1, ← g.2.2.2] at k
      exact k
    · rw [if_neg (fun z => n8 z.2), if_pos rfl, if_neg n8] at hq
      have k := c_eventF (v := evo a b c) h g.1 (by omega) (hq s h xk.rf)
      rw [← g.2.1, ← g.2.2.1, ← g.2.2.2] at k
      exact k
set_option maxHeartbeats 4000000 in
theorem m_ev {t : Td} {a b c : Int32} {s : xSt} {Q : Int32 → xSt → Prop} (hT : VT t) (h : PM t s) (hq : ∀ s', PM (ev_t t a b c) s' → xk kS s s' → Q (ev_r t a b c) s') : d7_event a b c s Q := by
  unfold ev_t ev_r at hq
  have hn := hT.2.2.1
  cases e : evb a b c
  · rw [e] at hq
    simp only [Bool.false_eq_true, false_and, if_false] at hq
    have q := hq s h xk.rf
    unfold d7_event
    rcases evb_f e with x | ⟨⟨j, hj, x⟩, y⟩
    · exact l7_inB (n := 3) (by omega) rfl x (br_t rfl q)
    · subst x
      refine l7_inG (n := 3) (by omega) rfl (by omega) (br_f (by decide) ?_)
      rcases y with y | ⟨⟨i, hi, y⟩, z⟩
      · exact l7_hourB y (br_t rfl q)
      · subst y
        exact l7_hourG hi (br_f (by decide) (l7_placeB z (bn_t rfl q)))
  · have g := evb_t e
    rw [e] at hq
    by_cases n8 : tne t < 8
    · rw [if_pos ⟨rfl, n8⟩, if_pos rfl, if_pos n8] at hq
      have k := m_event (v := evo a b c) h g.1 n8 hq
      rw [← g.2.1, ← g.2.2.1, ← g.2.2.2] at k
      exact k
    · rw [if_neg (fun z => n8 z.2), if_pos rfl, if_neg n8] at hq
      have k := m_eventF (v := evo a b c) h g.1 (by omega) (hq s h xk.rf)
      rw [← g.2.1, ← g.2.2.1, ← g.2.2.2] at k
      exact k
set_option maxHeartbeats 4000000 in
theorem q_event {a b c : Int32} {σ : xSt} (h : RR σ) : d6_event a b c σ (fun r s1 => d7_event a b c s1 (fun r' s2 => r = r' ∧ RR s2)) := by
  obtain ⟨t, hT, hC, hM⟩ := h
  exact both (D6 := d6_event a b c) (D7 := d7_event a b c) hM (VT_ev hT) (fun Q hq => c_ev hT hC hq) fun s1 Q p hq => m_ev hT p hq
set_option maxHeartbeats 4000000 in
theorem VT_tk {t : Td} {n : Nat} (h : VT t) (hn : n ≤ tne t) : VT (te t n (tg t)) := ⟨h.1, h.2.1, Nat.le_trans hn h.2.2.1, fun e he => h.2.2.2.1 e (Nat.lt_of_lt_of_le he hn), h.2.2.2.2⟩
set_option maxHeartbeats 4000000 in
theorem q_back {σ : xSt} (h : RR σ) : d6_back σ (fun r s1 => d7_back s1 (fun r' s2 => r = r' ∧ RR s2)) := by
  obtain ⟨t, hT, hC, hM⟩ := h
  have hn := hT.2.2.1
  rcases Nat.eq_zero_or_pos (tne t) with z | z
  · refine same (D6 := d6_back) (D7 := d7_back) hT hC hM (a := -3) (fun Q q => ?_) (fun Q q => ?_)
    · unfold d6_back
      rw [hC.1.2.2.1.1, z]; exact bn_t rfl q
    · unfold d7_back
      rw [hM.2.1.1, z]; exact bn_t rfl q
  · refine both (D6 := d6_back) (D7 := d7_back) (t' := te t (tne t - 1) (tg t)) (a := nI (tne t - 1)) hM (VT_tk hT (by omega)) (fun Q hq => ?_) fun s1 Q p hq => ?_
    · obtain ⟨⟨g1, g2, g3, g4, g5, g6⟩, -⟩ := hC
      unfold d6_back d1_dropEvents
      rw [g3.1]
      refine bn_f (nne (b := 0) (by omega) (by omega) (by omega)) ?_
      intro s1 e1
      rw [show nI (tne t) - (1 : Int32) = nI (tne t - 1) from pk_sub (b := 1) (by omega), cut (by omega) (by omega)] at e1
      subst e1
      intro s3 e3
      subst e3
      rw [xI_xsI_ne (by decide), xI_xsI_eq]
      refine hq _ ⟨⟨?_, ?_, ⟨by rw [xI_xsI_ne (by decide), xI_xsI_eq]; rfl, fun e he => ?_⟩, ?_, ?_, ?_⟩, Or.inl (xI_xsI_eq _ _ _ _)⟩ ((xk.rf.sI rfl).sI rfl)
      · exact ⟨by rw [xI_xsI_ne (by decide), xI_xsI_ne (by decide)]; exact g1.1, g1.2.1, by rw [xI_xsI_ne (by decide), xI_xsI_ne (by decide)]; exact g1.2.2.1, g1.2.2.2⟩
      · exact ⟨⟨by rw [xI_xsI_ne (by decide), xI_xsI_ne (by decide)]; exact g2.1.1, g2.1.2⟩, g2.2⟩
      · have he : e < tne t - 1 := he
        exact g3.2 e (by omega)
      · exact ⟨by rw [xI_xsI_ne (by decide), xI_xsI_ne (by decide)]; exact g4.1, g4.2⟩
      · intro q hq
        rw [xI_xsI_ne (by omega), xI_xsI_ne (by omega), xI_xsI_ne (by omega), xI_xsI_ne (by omega)]
        exact g5 q hq
      · rw [xI_xsI_ne (by decide), xI_xsI_ne (by decide)]; exact g6
    · obtain ⟨g1, g3, g4, g5, g6⟩ := p
      unfold d7_back
      rw [g3.1]
      refine bn_f (nne (b := 0) (by omega) (by omega) (by omega)) ?_
      intro s2 e2
      rw [show nI (tne t) - (1 : Int32) = nI (tne t - 1) from pk_sub (b := 1) (by omega)] at e2
      subst e2
      rw [xI_xsI_eq]
      refine hq _ ⟨g1, ⟨xI_xsI_eq _ _ _ _, fun e he => ?_⟩, ⟨by rw [xI_xsI_ne (by decide)]; exact g4.1, g4.2⟩, g5, by rw [xI_xsI_ne (by decide)]; exact g6⟩ (xk.rf.sI rfl)
      have he : e < tne t - 1 := he
      exact g3.2 e (by omega)
-- seen, forget
set_option maxHeartbeats 4000000 in
theorem q_forget {σ : xSt} (h : RR σ) : d6_forget σ (fun r s1 => d7_forget s1 (fun r' s2 => r = r' ∧ RR s2)) := by
  obtain ⟨t, hT, hC, hM⟩ := h
  refine both (D6 := d6_forget) (D7 := d7_forget) (t' := ts t 0 (tsn t)) (a := nI (tns t)) hM ⟨hT.1, hT.2.1, hT.2.2.1, hT.2.2.2.1, Nat.zero_le 8, fun i hi => absurd hi (Nat.not_lt_zero i), hT.2.2.2.2.2.2⟩ (fun Q hq => ?_) fun s1 Q p hq => ?_
  · obtain ⟨⟨g1, g2, g3, g4, g5, g6⟩, g7⟩ := hC
    unfold d6_forget
    intro v1 e1 s2 e2
    subst e1 e2
    rw [g4.1]
    have k : xk (fun a o c => !(o == 7)) σ (xsI σ 7 3 0) := xk.rf.sI rfl
    refine hq _ ⟨⟨g1.keep k rfl rfl rfl rfl, CT.keep (t := t) g2 k (fun _ _ => rfl), ⟨by rw [xI_xsI_ne (by decide)]; exact g3.1, g3.2⟩, ⟨xI_xsI_eq _ _ _ _, fun i hi => absurd hi (Nat.not_lt_zero i)⟩, fun q hq => ?_, by rw [xI_xsI_ne (by decide)]; exact g6⟩, ?_⟩ (xk.rf.sI rfl)
    · rw [xI_xsI_ne (by omega), xI_xsI_ne (by omega)]
      exact g5 q hq
    · rcases g7 with w | ⟨w, w2⟩
      · exact Or.inl (by rw [xI_xsI_ne (by decide)]; exact w)
      · exact Or.inr ⟨by rw [xI_xsI_ne (by decide)]; exact w, N2.keep (b := bt t) w2 k (fun _ _ => rfl)⟩
  · obtain ⟨g1, g3, g4, g5, g6⟩ := p
    unfold d7_forget
    intro v1 e1 s2 e2
    subst e1 e2
    rw [g4.1]
    exact hq _ ⟨g1, ⟨by rw [xI_xsI_ne (by decide)]; exact g3.1, g3.2⟩, ⟨xI_xsI_eq _ _ _ _, fun i hi => absurd hi (Nat.not_lt_zero i)⟩, g5, by rw [xI_xsI_ne (by decide)]; exact g6⟩ (xk.rf.sI rfl)
set_option maxHeartbeats 4000000 in
theorem q_seen {a b c : Int32} {σ : xSt} (h : RR σ) : d6_seen a b c σ (fun r s1 => d7_seen a b c s1 (fun r' s2 => r = r' ∧ RR s2)) := by
  obtain ⟨t, hT, hC, hM⟩ := h
  have hn := hT.2.2.2.2.1
  by_cases x : ∃ j, j < 20 ∧ a = nI j
  rotate_left
  · exact same (D6 := d6_seen a b c) (D7 := d7_seen a b c) hT hC hM (a := -2) (fun Q q => l6_hourB x (br_t rfl q)) (fun Q q => l7_hourB x (br_t rfl q))
  obtain ⟨j, hj, x⟩ := x
  subst x
  by_cases y : ∃ j, j < 8 ∧ b = nI j
  rotate_left
  · exact same (D6 := d6_seen (nI j) b c) (D7 := d7_seen (nI j) b c) hT hC hM (a := -2) (fun Q q => l6_isHour hj (br_f (by decide) ⟨fun _ => q, fun z => br_t (badP y z) q⟩)) (fun Q q => l7_hourG hj (br_f (by decide) (l7_inB (n := 7) (by omega) rfl y (br_t rfl q))))
  obtain ⟨i, hi, y⟩ := y
  subst y
  by_cases z : ∃ j, j < 12 ∧ c = nI j
  rotate_left
  · exact same (D6 := d6_seen (nI j) (nI i) c) (D7 := d7_seen (nI j) (nI i) c) hT hC hM (a := -2) (fun Q q => l6_isHour hj (br_f (by decide) (br_f (nI_pos (by omega)) (br_f (nle (a := 8) hi (by omega)) (l6_placeB z (bn_t rfl q)))))) (fun Q q => l7_hourG hj (br_f (by decide) (l7_inG (n := 7) (by omega) rfl hi (br_f (by decide) (l7_placeB z (bn_t rfl q))))))
  obtain ⟨l, hl, z⟩ := z
  subst z
  rcases Nat.lt_or_ge (tns t) 8 with w | w
  rotate_left
  · refine same (D6 := d6_seen (nI j) (nI i) (nI l)) (D7 := d7_seen (nI j) (nI i) (nI l)) hT hC hM (a := -4) (fun Q q => l6_isHour hj (br_f (by decide) (br_f (nI_pos (by omega)) (br_f (nle (a := 8) hi (by omega)) (l6_isPlace hl (bn_f (by decide) ?_)))))) (fun Q q => l7_hourG hj (br_f (by decide) (l7_inG (n := 7) (by omega) rfl hi (br_f (by decide) (l7_placeG hl (bn_f (by decide) ?_))))))
    · unfold d4_add
      rw [hC.1.2.2.2.1.1]
      exact br_f (nI_pos (by omega)) (br_f (nlt (b := 8) w (by omega)) (br_t rfl q))
    · rw [hM.2.2.1.1]
      exact bn_t (by rw [show tns t = 8 by omega]; rfl) q
  have hv : VT (ts t (tns t + 1) (eup (tsn t) (tns t) (j, i, l))) := by
    refine ⟨hT.1, hT.2.1, hT.2.2.1, hT.2.2.2.1, by show tns t + 1 ≤ 8; omega, fun e he => ?_, hT.2.2.2.2.2.2⟩
    have he : e < tns t + 1 := he
    show (eup (tsn t) (tns t) (j, i, l) e).1 < 20 ∧ (eup (tsn t) (tns t) (j, i, l) e).2.1 < 8 ∧ (eup (tsn t) (tns t) (j, i, l) e).2.2 < 12
    unfold eup
    by_cases q : e = tns t
    · rw [if_pos q]; exact ⟨hj, hi, hl⟩
    · rw [if_neg q]; exact hT.2.2.2.2.2.1 e (by omega)
  refine both (D6 := d6_seen (nI j) (nI i) (nI l)) (D7 := d7_seen (nI j) (nI i) (nI l)) (a := nI (tns t + 1)) hM hv (fun Q hq => l6_isHour hj (br_f (by decide) (br_f (nI_pos (by omega)) (br_f (nle (a := 8) hi (by omega)) (l6_isPlace hl (bn_f (by decide) ?_)))))) (fun s1 Q p hq => l7_hourG hj (br_f (by decide) (l7_inG (n := 7) (by omega) rfl hi (br_f (by decide) (l7_placeG hl (bn_f (by decide) ?_))))))
  · obtain ⟨⟨g1, g2, g3, g4, g5, g6⟩, g7⟩ := hC
    unfold d4_add
    rw [g4.1, ncl (a := tns t) (by omega)]
    refine br_f (nI_pos (by omega)) (br_t (nI_lt (b := 8) w (by omega)) ⟨nin w (by omega), ?_⟩)
    intro s4 e4
    rw [show xI s4 7 3 = nI (tns t) by subst e4; exact g4.1, ncl (a := tns t) (by omega)]
    refine ⟨nin w (by omega), ?_⟩
    intro s6 e6
    rw [show xI s6 7 3 = nI (tns t) by subst e6 e4; exact g4.1, ncl (a := tns t) (by omega)]
    refine ⟨nin w (by omega), ?_⟩
    intro s8 e8
    rw [show xI s8 7 3 = nI (tns t) by subst e8 e6 e4; exact g4.1, nI_1]
    intro s9 e9
    refine br_f (by decide) ?_
    have k : xk (fun a o c => !(o == 7)) σ s9 := by subst e9 e8 e6 e4; exact (((xk.rf.uA rfl).uA rfl).uA rfl).sI rfl
    have i9 : xI s9 7 3 = nI (tns t + 1) := by subst e9; exact xI_xsI_eq _ _ _ _
    rw [i9]
    have key := row3 (v := (j, i, l)) g4.2 rfl rfl rfl
    refine hq _ ⟨⟨g1.keep k rfl rfl rfl rfl, CT.keep (t := t) g2 k (fun _ _ => rfl), ⟨by rw [k.1 3 8 rfl]; exact g3.1, ?_⟩, ⟨i9, fun e he => ?_⟩, fun q hq => ?_, by rw [k.1 0 12 rfl]; exact g6⟩, ?_⟩ (k.mono fun a o c q => ?_)
    · rw [k.2.1 3 5 rfl, k.2.1 3 6 rfl, k.2.1 3 7 rfl]; exact g3.2
    · subst e9 e8 e6 e4
      rw [xA_xsI, xA_xuA_ne (by decide), xA_xuA_ne (by decide), xA_xuA_eq, xA_xuA_ne (k' := 1) (by decide), xA_xuA_eq, xA_xuA_ne (k' := 1) (by decide), xA_xuA_eq, xA_xuA_ne (k' := 2) (by decide), xA_xuA_ne (k' := 2) (by decide)]
      exact key e he
    · have e : ∀ a c, (fun (a o c : Nat) => !(o == 7)) a (9 + q) c = true := fun a c => by
        simp only [Bool.not_eq_true', beq_eq_false_iff_ne]; omega
      rw [k.1 (9 + q) 1 (e 0 1), k.1 (9 + q) 2 (e 0 2), k.2.1 (9 + q) 0 (e 1 0)]; exact g5 q hq
    · rcases g7 with w | ⟨w, w2⟩
      · exact Or.inl (by rw [k.1 0 11 rfl]; exact w)
      · exact Or.inr ⟨by rw [k.1 0 11 rfl]; exact w, N2.keep (b := bt t) w2 k (fun _ _ => rfl)⟩
    · simp only [kR, Bool.not_eq_true', beq_eq_false_iff_ne, beq_iff_eq] at q ⊢; omega
  · obtain ⟨g1, g3, g4, g5, g6⟩ := p
    rw [g4.1, ncl (a := tns t) (by omega)]
    refine bn_f (nne (b := 8) (by omega) (by omega) (by omega)) ⟨nin w (by omega), ?_⟩
    intro s4 e4; subst e4
    rw [xI_xuA, g4.1, ncl (a := tns t) (by omega)]
    refine ⟨nin w (by omega), ?_⟩
    intro s6 e6; subst e6
    rw [xI_xuA, xI_xuA, g4.1, ncl (a := tns t) (by omega)]
    refine ⟨nin w (by omega), ?_⟩
    intro s8 e8; subst e8
    intro s9 e9; subst e9
    rw [xI_xuA, xI_xuA, xI_xuA, g4.1, nI_1, xI_xsI_eq]
    have key := row3 (v := (j, i, l)) g4.2 rfl rfl rfl
    refine hq _ ⟨g1, ⟨by rw [xI_xsI_ne (by decide)]; exact g3.1, g3.2⟩, ⟨xI_xsI_eq _ _ _ _, fun e he => ?_⟩, g5, by rw [xI_xsI_ne (by decide)]; exact g6⟩ ((((xk.rf.uA rfl).uA rfl).uA rfl).sI rfl)
    rw [xA_xsI, xA_xuA_ne (by decide), xA_xuA_ne (by decide), xA_xuA_eq, xA_xuA_ne (k' := 33) (by decide), xA_xuA_eq, xA_xuA_ne (k' := 33) (by decide), xA_xuA_eq, xA_xuA_ne (k' := 34) (by decide), xA_xuA_ne (k' := 34) (by decide)]
    exact key e he
