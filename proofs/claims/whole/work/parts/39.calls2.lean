set_option maxHeartbeats 4000000 in
theorem l1_hasG {t : Td} {j : Nat} {s : xSt} {Q : Int32 → xSt → Prop} (hT : VT t) (h : xI s 3 4 = nI (t_m t)) (hj : j < t_m t) (hq : Q 1 s) : d1_hasMember 3 (nI j) s Q := by
  have := t_m_le hT
  unfold d1_hasMember
  rw [h]
  exact br_f (nI_pos (by omega)) (br_f (nle hj (by omega)) (br_f (nle (a := 8) (by omega) (by omega)) hq))
set_option maxHeartbeats 4000000 in
theorem l1_hasB {t : Td} {a : Int32} {s : xSt} {Q : Int32 → xSt → Prop} (h : xI s 3 4 = nI (t_m t)) (hj : ¬ ∃ j, j < t_m t ∧ a = nI j) (hq : Q 0 s) : d1_hasMember 3 a s Q := by
  unfold d1_hasMember
  rw [h]
  exact ⟨fun _ => hq, fun z => br_t (badP hj z) hq⟩
set_option maxHeartbeats 4000000 in
theorem l7_isMemberG {t : Td} {j : Nat} {s : xSt} {Q : Int32 → xSt → Prop} (hT : VT t) (hM : PM t s) (hj : j < t_m t) (hq : ∀ s', B7 (bt t) s' → PM t s' → xk kS s s' → Q 1 s') : d7_isMember (nI j) s Q := by
  have := t_m_le hT
  unfold d7_isMember
  refine l7_reads hT hM.1 fun s' h1 h2 h3 => ?_
  rw [h1.1, bt_m]
  exact l7_inG (n := t_m t - 1) (by omega) (pk_sub (b := 1) (by omega)) (by omega) (hq s' h1 (hM.str h3) (k7r_S h3))
set_option maxHeartbeats 4000000 in
theorem l7_isMemberB {t : Td} {a : Int32} {s : xSt} {Q : Int32 → xSt → Prop} (hT : VT t) (hM : PM t s) (hj : ¬ ∃ j, j < t_m t ∧ a = nI j) (hq : ∀ s', PM t s' → xk kS s s' → Q 0 s') : d7_isMember a s Q := by
  have := t_m_le hT
  unfold d7_isMember
  refine l7_reads hT hM.1 fun s' h1 h2 h3 => ?_
  rw [h1.1, bt_m]
  have q := hq s' (hM.str h3) (k7r_S h3)
  rcases Nat.eq_zero_or_pos (t_m t) with c | c
  · rw [c]
    exact l7_in (fun _ => q) fun z w => absurd (Int32.lt_of_lt_of_le (by decide) (Int32.not_lt.mp z)) w
  · exact l7_inB (n := t_m t - 1) (by omega) (pk_sub (b := 1) (by omega)) (by rw [show t_m t - 1 + 1 = t_m t by omega]; exact hj) q
set_option maxHeartbeats 4000000 in
theorem w_lt0 {a : Int32} {n : Nat} (h : ¬ ∃ j, j < n + 1 ∧ a = nI j) (hn : n < 1000) (h0 : ¬ a < 0) : ¬ a ≤ nI n := fun z => Int32.not_le.mpr (badM hn h h0) z
set_option maxHeartbeats 4000000 in
theorem l6_upM {t : Td} {j : Nat} {w : Nat} {s : xSt} {Q : Int32 → xSt → Prop} (hT : VT t) (h : PC0 t s) (hj : j < t_m t) (hq : Q (if w = 0 then nI (t_so t j) else if w = 1 then nI (t_pl t j) else nI (t_up t j)) s) : (¬ w = 0 → (¬ w = 1 → d1_uprightOf 3 (nI j) s Q) ∧ (w = 1 → d1_placeOf 3 (nI j) s Q)) ∧ (w = 0 → d1_sortOf 3 (nI j) s Q) := by
  have := t_m_le hT
  have x := h.2.1.1
  refine ⟨fun a => ⟨fun b => ?_, fun b => ?_⟩, fun a => ?_⟩
  · rw [if_neg a, if_neg b] at hq
    refine l1_hasG hT x.1 hj (br_f (by decide) ⟨nin (by omega) (by omega), ?_⟩)
    rw [ncl (by omega), x.2.2.2 j hj]; exact hq
  · rw [if_neg a, if_pos b] at hq
    refine l1_hasG hT x.1 hj (br_f (by decide) ⟨nin (by omega) (by omega), ?_⟩)
    rw [ncl (by omega), x.2.2.1 j hj]; exact hq
  · rw [if_pos a] at hq
    refine l1_hasG hT x.1 hj (br_f (by decide) ⟨nin (by omega) (by omega), ?_⟩)
    rw [ncl (by omega), x.2.1 j hj]; exact hq
set_option maxHeartbeats 4000000 in
theorem w_case {K0 K1 K2 : Prop} {w : Nat} (hw : w < 3) (h : (¬ w = 0 → (¬ w = 1 → K2) ∧ (w = 1 → K1)) ∧ (w = 0 → K0)) : (¬ nI w = 0 → (¬ nI w = 1 → K2) ∧ (nI w = 1 → K1)) ∧ (nI w = 0 → K0) := by
  have e0 : nI w = 0 ↔ w = 0 := nI_eq (b := 0) (by omega) (by omega)
  have e1 : nI w = 1 ↔ w = 1 := nI_eq (b := 1) (by omega) (by omega)
  rw [e0, e1]; exact h
set_option maxHeartbeats 4000000 in
theorem q_member {a w : Int32} {σ : xSt} (h : RR σ) : d6_member a w σ (fun r s1 => d7_member a w s1 (fun r' s2 => r = r' ∧ RR s2)) := by
  obtain ⟨t, hT, hC, hM⟩ := h
  have hm := t_m_le hT
  have x := hC.1.2.1.1.1
  by_cases c : ∃ j, j < t_m t ∧ a = nI j
  rotate_left
  · refine both (D6 := d6_member a w) (D7 := d7_member a w) (a := -2) hM hT (fun Q hq => l1_hasB x c (br_t rfl (hq σ hC xk.rf))) fun s1 Q p hq => ?_
    exact l7_isMemberB hT p c fun s' p' k => br_t rfl (hq s' p' k)
  obtain ⟨j, hj, e⟩ := c
  subst e
  by_cases d : ∃ i, i < 3 ∧ w = nI i
  · obtain ⟨i, hi, e⟩ := d
    subst e
    refine both (D6 := d6_member (nI j) (nI i)) (D7 := d7_member (nI j) (nI i)) (a := if i = 0 then nI (t_so t j) else if i = 1 then nI (t_pl t j) else nI (t_up t j)) hM hT (fun Q hq => ?_) fun s1 Q p hq => ?_
    · refine l1_hasG hT x hj (br_f (by decide) (br_f (nI_pos (by omega)) (br_t (nI_le (b := 2) (by omega) (by omega)) ?_)))
      exact w_case hi (l6_upM hT hC.1 hj (hq σ hC xk.rf))
    · refine l7_isMemberG hT p hj fun s' b p' k => br_f (by decide) (l7_inG (n := 2) (by omega) rfl hi (br_f (by decide) ?_))
      unfold d7_memberOf
      rw [ncl (by omega)]
      have q := hq s' p' k
      refine w_case hi ⟨fun a => ⟨fun b' => ⟨nin (by omega) (by omega), ?_⟩, fun b' => ⟨nin (by omega) (by omega), ?_⟩⟩, fun a => ⟨nin (by omega) (by omega), ?_⟩⟩
      · rw [if_neg a, if_neg b'] at q; rw [b.2.2.2.2 j hj]; exact q
      · rw [if_neg a, if_pos b'] at q; rw [b.2.2.2.1 j hj]; exact q
      · rw [if_pos a] at q; rw [b.2.1 j hj]; exact q
  · refine both (D6 := d6_member (nI j) w) (D7 := d7_member (nI j) w) (a := -2) hM hT (fun Q hq => l1_hasG hT x hj (br_f (by decide) ?_)) fun s1 Q p hq => ?_
    · have q := hq σ hC xk.rf
      exact ⟨fun _ => q, fun z => br_f (w_lt0 (n := 2) d (by omega) z) q⟩
    · exact l7_isMemberG hT p hj fun s' b p' k => br_f (by decide) (l7_inB (n := 2) (by omega) rfl d (br_t rfl (hq s' p' k)))
-- events
def eup (g : Nat → Ev) (n : Nat) (v : Ev) : Nat → Ev := fun e => if e = n then v else g e
def te (t : Td) (n : Nat) (g : Nat → Ev) : Td := (t.1, t.2.1, t.2.2.1, t.2.2.2.1, n, g, t.2.2.2.2.2.2)
def ts (t : Td) (n : Nat) (g : Nat → Ev) : Td := (t.1, t.2.1, t.2.2.1, t.2.2.2.1, t.2.2.2.2.1, t.2.2.2.2.2.1, n, g, t.2.2.2.2.2.2.2.2)
set_option maxHeartbeats 4000000 in
theorem row3 {A B C : Nat → Int32} {g : Nat → Ev} {n : Nat} {v : Ev} {a b c : Int32} (h : ∀ e, e < n → A e = nI (g e).1 ∧ B e = nI (g e).2.1 ∧ C e = nI (g e).2.2) (ha : a = nI v.1) (hb : b = nI v.2.1) (hc : c = nI v.2.2) : ∀ e, e < n + 1 → upd A n a e = nI (eup g n v e).1 ∧ upd B n b e = nI (eup g n v e).2.1 ∧ upd C n c e = nI (eup g n v e).2.2 := by
  intro e he
  unfold eup
  rw [upd_ap, upd_ap, upd_ap]
  by_cases q : e = n
  · rw [if_pos q, if_pos q, if_pos q, if_pos q]; exact ⟨ha, hb, hc⟩
  · rw [if_neg q, if_neg q, if_neg q, if_neg q]; exact h e (by omega)
set_option maxHeartbeats 4000000 in
theorem VT_te {t : Td} {v : Ev} (h : VT t) (hn : tne t < 8) (hv : v.1 < 4 ∧ v.2.1 < 20 ∧ v.2.2 < 12) : VT (te t (tne t + 1) (eup (tg t) (tne t) v)) := by
  refine ⟨h.1, h.2.1, by show tne t + 1 ≤ 8; omega, fun e he => ?_, h.2.2.2.2⟩
  have he : e < tne t + 1 := he
  show (eup (tg t) (tne t) v e).1 < 4 ∧ (eup (tg t) (tne t) v e).2.1 < 20 ∧ (eup (tg t) (tne t) v e).2.2 < 12
  unfold eup
  by_cases q : e = tne t
  · rw [if_pos q]; exact hv
  · rw [if_neg q]; exact h.2.2.2.1 e (by omega)
set_option maxHeartbeats 4000000 in
theorem c_event {t : Td} {v : Ev} {s : xSt} {Q : Int32 → xSt → Prop} (h : PC t s) (hv : v.1 < 4 ∧ v.2.1 < 20 ∧ v.2.2 < 12) (hn : tne t < 8) (hq : ∀ s', PC (te t (tne t + 1) (eup (tg t) (tne t) v)) s' → xk kR s s' → Q (nI (tne t + 1)) s') : d6_event (nI v.1) (nI v.2.1) (nI v.2.2) s Q := by
  obtain ⟨⟨g1, g2, g3, g4, g5, g6⟩, -⟩ := h
  unfold d6_event
  refine br_f (nI_pos (by omega)) (br_f (nle (a := 4) (by omega) (by omega)) (l6_isHour hv.2.1 (br_f (by decide) (l6_isPlace hv.2.2 (bn_f (by decide) ?_)))))
  unfold d1_addEvent
  rw [g3.1, ncl (a := tne t) (by omega)]
  refine br_t (nI_lt (b := 8) hn (by omega)) (br_f (nI_pos (by omega)) (br_t (nI_lt (b := 9) (by omega) (by omega)) ⟨nin (by omega) (by omega), ?_⟩))
  intro s4 e4; subst e4
  rw [xI_xuA, g3.1, ncl (a := tne t) (by omega)]
  refine ⟨nin (by omega) (by omega), ?_⟩
  intro s6 e6; subst e6
  rw [xI_xuA, xI_xuA, g3.1, ncl (a := tne t) (by omega)]
  refine ⟨nin (by omega) (by omega), ?_⟩
  intro s8 e8; subst e8
  intro s9 e9; subst e9
  rw [xI_xuA, xI_xuA, xI_xuA, g3.1, nI_1]
  intro s11 e11; subst e11
  rw [xI_xsI_ne (by decide), xI_xsI_eq]
  have key := row3 (v := v) g3.2 rfl rfl rfl
  refine hq _ ⟨⟨?_, ?_, ⟨by rw [xI_xsI_ne (by decide), xI_xsI_eq]; rfl, ?_⟩, ?_, ?_, ?_⟩, Or.inl (xI_xsI_eq _ _ _ _)⟩ (((((xk.rf.uA rfl).uA rfl).uA rfl).sI rfl).sI rfl)
  · exact ⟨by rw [xI_xsI_ne (by decide), xI_xsI_ne (by decide)]; exact g1.1, g1.2.1, by rw [xI_xsI_ne (by decide), xI_xsI_ne (by decide)]; exact g1.2.2.1, g1.2.2.2⟩
  · exact ⟨⟨by rw [xI_xsI_ne (by decide), xI_xsI_ne (by decide)]; exact g2.1.1, g2.1.2⟩, g2.2⟩
  · intro e he
    rw [xA_xsI, xA_xsI, xA_xuA_ne (by decide), xA_xuA_ne (by decide), xA_xuA_eq, xA_xuA_ne (k := 7) (k' := 6) (by decide), xA_xuA_eq, xA_xuA_ne (k' := 6) (by decide), xA_xuA_eq, xA_xuA_ne (k' := 7) (by decide), xA_xuA_ne (k' := 7) (by decide)]
    exact key e he
  · exact ⟨by rw [xI_xsI_ne (by decide), xI_xsI_ne (by decide)]; exact g4.1, g4.2⟩
  · intro q hq
    rw [xI_xsI_ne (by omega), xI_xsI_ne (by omega), xI_xsI_ne (by omega), xI_xsI_ne (by omega), xA_xsI, xA_xsI, xA_xuA_ne (by omega), xA_xuA_ne (by omega), xA_xuA_ne (by omega)]
    exact g5 q hq
  · rw [xI_xsI_ne (by decide), xI_xsI_ne (by decide)]; exact g6
set_option maxHeartbeats 4000000 in
theorem m_event {t : Td} {v : Ev} {s : xSt} {Q : Int32 → xSt → Prop} (h : PM t s) (hv : v.1 < 4 ∧ v.2.1 < 20 ∧ v.2.2 < 12) (hn : tne t < 8) (hq : ∀ s', PM (te t (tne t + 1) (eup (tg t) (tne t) v)) s' → xk kS s s' → Q (nI (tne t + 1)) s') : d7_event (nI v.1) (nI v.2.1) (nI v.2.2) s Q := by
  obtain ⟨g1, g3, g4, g5, g6⟩ := h
  unfold d7_event
  refine l7_inG (n := 3) (by omega) rfl (by omega) (br_f (by decide) (l7_hourG hv.2.1 (br_f (by decide) (l7_placeG hv.2.2 (bn_f (by decide) ?_)))))
  rw [g3.1, ncl (a := tne t) (by omega)]
  refine bn_f (nne (b := 8) (by omega) (by omega) (by omega)) ⟨nin (by omega) (by omega), ?_⟩
  intro s4 e4; subst e4
  rw [xI_xuA, g3.1, ncl (a := tne t) (by omega)]
  refine ⟨nin (by omega) (by omega), ?_⟩
  intro s6 e6; subst e6
  rw [xI_xuA, xI_xuA, g3.1, ncl (a := tne t) (by omega)]
  refine ⟨nin (by omega) (by omega), ?_⟩
  intro s8 e8; subst e8
  intro s9 e9; subst e9
  rw [xI_xuA, xI_xuA, xI_xuA, g3.1, nI_1, xI_xsI_eq]
  have key := row3 (v := v) g3.2 rfl rfl rfl
  refine hq _ ⟨g1, ⟨xI_xsI_eq _ _ _ _, ?_⟩, ⟨by rw [xI_xsI_ne (by decide)]; exact g4.1, g4.2⟩, g5, by rw [xI_xsI_ne (by decide)]; exact g6⟩ ((((xk.rf.uA rfl).uA rfl).uA rfl).sI rfl)
  intro e he
  rw [xA_xsI, xA_xuA_ne (by decide), xA_xuA_ne (by decide), xA_xuA_eq, xA_xuA_ne (k' := 10) (by decide), xA_xuA_eq, xA_xuA_ne (k' := 10) (by decide), xA_xuA_eq, xA_xuA_ne (k' := 11) (by decide), xA_xuA_ne (k' := 11) (by decide)]
  exact key e he
