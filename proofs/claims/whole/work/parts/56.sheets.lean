-- sheets
def tF (t : Td) (v : Int32) : Td := (t.1, t.2.1, t.2.2.1, t.2.2.2.1, t.2.2.2.2.1, t.2.2.2.2.2.1, t.2.2.2.2.2.2.1, t.2.2.2.2.2.2.2.1, t.2.2.2.2.2.2.2.2.1, t.2.2.2.2.2.2.2.2.2.1, t.2.2.2.2.2.2.2.2.2.2.1, v)
def tS (t : Td) (k : Nat) (fm : Int32) (sz : Nat) (it : Nat → Int32) : Td := (t.1, t.2.1, t.2.2.1, t.2.2.2.1, t.2.2.2.2.1, t.2.2.2.2.2.1, t.2.2.2.2.2.2.1, t.2.2.2.2.2.2.2.1, (fun q => if q = k then fm else tsf t q), (fun q => if q = k then sz else tsz t q), (fun q => if q = k then it else tit t q), tfd t)
set_option maxHeartbeats 4000000 in
theorem VT_tF {t : Td} {v : Int32} (h : VT t) : VT (tF t v) := h
set_option maxHeartbeats 4000000 in
theorem VT_tS {t : Td} {k sz : Nat} {fm : Int32} {it : Nat → Int32} (h : VT t) (hf : fm = -1 ∨ fm = 0 ∨ fm = 1 ∨ fm = 2) (hz : sz ≤ 60) : VT (tS t k fm sz it) := by
  refine ⟨h.1, h.2.1, h.2.2.1, h.2.2.2.1, h.2.2.2.2.1, h.2.2.2.2.2.1, fun q hq => ?_, fun q hq => ?_⟩
  · show (if q = k then fm else tsf t q) = -1 ∨ (if q = k then fm else tsf t q) = 0 ∨ (if q = k then fm else tsf t q) = 1 ∨ (if q = k then fm else tsf t q) = 2
    split
    · exact hf
    · exact h.2.2.2.2.2.2.1 q hq
  · show (if q = k then sz else tsz t q) ≤ 60
    split
    · exact hz
    · exact h.2.2.2.2.2.2.2 q hq
set_option maxHeartbeats 4000000 in
theorem c_find {t : Td} {v : Int32} {s : xSt} {Q : Int32 → xSt → Prop} (h : PC t s) (hq : ∀ s', PC (tF t v) s' → xk kR s s' → Q (-10 - v) s') : d6_finding v s Q := by
  obtain ⟨⟨g1, g2, g3, g4, g5, g6⟩, g7⟩ := h
  unfold d6_finding
  intro s1 e1
  have k : xk (fun t o k => !(o == 0 && t == 0 && k == 12)) s s1 := by subst e1; exact xk.rf.sI rfl
  refine hq s1 ⟨⟨g1.keep k rfl rfl rfl rfl, CT.keep (t := t) g2 k (fun _ _ => rfl), ⟨by rw [k.1 3 8 rfl]; exact g3.1, by rw [k.2.1 3 5 rfl, k.2.1 3 6 rfl, k.2.1 3 7 rfl]; exact g3.2⟩, ⟨by rw [k.1 7 3 rfl]; exact g4.1, by rw [k.2.1 7 0 rfl, k.2.1 7 1 rfl, k.2.1 7 2 rfl]; exact g4.2⟩, fun q hq => ?_, by subst e1; exact xI_xsI_eq _ _ _ _⟩, ?_⟩ (k.mono fun t o k q => ?_)
  · subst e1
    rw [xI_xsI_ne (by omega), xI_xsI_ne (by omega)]; exact g5 q hq
  · rcases g7 with w | ⟨w, w2⟩
    · exact Or.inl (by rw [k.1 0 11 rfl]; exact w)
    · exact Or.inr ⟨by rw [k.1 0 11 rfl]; exact w, N2.keep (b := bt t) w2 k (fun _ _ => rfl)⟩
  · simp only [kR, Bool.not_eq_true', Bool.and_eq_false_iff, beq_eq_false_iff_ne, beq_iff_eq] at q ⊢; omega
set_option maxHeartbeats 4000000 in
theorem m_find {t : Td} {v : Int32} {s : xSt} {Q : Int32 → xSt → Prop} (h : PM t s) (hq : ∀ s', PM (tF t v) s' → xk kS s s' → Q (-10 - v) s') : d7_meets v s Q := by
  obtain ⟨g1, g3, g4, g5, g6⟩ := h
  unfold d7_meets
  intro s1 e1
  subst e1
  exact hq _ ⟨g1, ⟨by rw [xI_xsI_ne (by decide)]; exact g3.1, g3.2⟩, ⟨by rw [xI_xsI_ne (by decide)]; exact g4.1, g4.2⟩, g5, xI_xsI_eq _ _ _ _⟩ (xk.rf.sI rfl)
def kO (k _t o _k : Nat) : Bool := !(o == 9 + k)
set_option maxHeartbeats 4000000 in
theorem c_sheet {t : Td} {k sz : Nat} {fm : Int32} {it : Nat → Int32} {s s1 : xSt} (h : PC t s) (hk : k < 4) (x : xk (kO k) s s1) (h1 : xI s1 (9 + k) 1 = fm) (h2 : xI s1 (9 + k) 2 = nI sz) (h3 : ∀ j, j < sz → xA s1 (9 + k) 0 j = it j) : PC (tS t k fm sz it) s1 ∧ xk kR s s1 := by
  obtain ⟨⟨g1, g2, g3, g4, g5, g6⟩, g7⟩ := h
  have e : ∀ o, ¬ o = 9 + k → ∀ a c, kO k a o c = true := fun o ho a c => by simp only [kO, Bool.not_eq_true', beq_eq_false_iff_ne]; exact ho
  refine ⟨⟨⟨g1.keep x (e 1 (by omega) _ _) (e 1 (by omega) _ _) (e 2 (by omega) _ _) (e 2 (by omega) _ _), CT.keep (t := t) g2 x (e 3 (by omega)), ⟨by rw [x.1 3 8 (e 3 (by omega) _ _)]; exact g3.1, by rw [x.2.1 3 5 (e 3 (by omega) _ _), x.2.1 3 6 (e 3 (by omega) _ _), x.2.1 3 7 (e 3 (by omega) _ _)]; exact g3.2⟩, ⟨by rw [x.1 7 3 (e 7 (by omega) _ _)]; exact g4.1, by rw [x.2.1 7 0 (e 7 (by omega) _ _), x.2.1 7 1 (e 7 (by omega) _ _), x.2.1 7 2 (e 7 (by omega) _ _)]; exact g4.2⟩, fun q hq => ?_, by rw [x.1 0 12 (e 0 (by omega) _ _)]; exact g6⟩, ?_⟩, x.mono fun t o c q => ?_⟩
  · show xI s1 (9 + q) 1 = (if q = k then fm else tsf t q) ∧ xI s1 (9 + q) 2 = nI (if q = k then sz else tsz t q) ∧ ∀ j, j < (if q = k then sz else tsz t q) → xA s1 (9 + q) 0 j = (if q = k then it else tit t q) j
    by_cases z : q = k
    · subst z
      rw [if_pos rfl, if_pos rfl, if_pos rfl]
      exact ⟨h1, h2, h3⟩
    · rw [if_neg z, if_neg z, if_neg z, x.1 (9 + q) 1 (e _ (by omega) _ _), x.1 (9 + q) 2 (e _ (by omega) _ _), x.2.1 (9 + q) 0 (e _ (by omega) _ _)]
      exact g5 q hq
  · rcases g7 with w | ⟨w, w2⟩
    · exact Or.inl (by rw [x.1 0 11 (e 0 (by omega) _ _)]; exact w)
    · exact Or.inr ⟨by rw [x.1 0 11 (e 0 (by omega) _ _)]; exact w, N2.keep (b := bt t) w2 x (e 5 (by omega))⟩
  · simp only [kR, kO, Bool.not_eq_true', beq_eq_false_iff_ne, beq_iff_eq] at q ⊢; omega
set_option maxHeartbeats 4000000 in
theorem l6_sheetB {a : Int32} {s : xSt} {Q : Option Nat → xSt → Prop} (h : ¬ ∃ j, j < 4 ∧ a = nI j) (hq : Q none s) : d6_sheetOf a s Q := ⟨fun _ => hq, fun z => br_t (badP h z) hq⟩
set_option maxHeartbeats 4000000 in
theorem l6_sheetG {k : Nat} {s : xSt} {Q : Option Nat → xSt → Prop} (h : k < 4) (hq : Q (some (9 + k)) s) : d6_sheetOf (nI k) s Q := by
  unfold d6_sheetOf
  rw [ncl (by omega)]
  exact br_f (nI_pos (by omega)) (br_f (nle (a := 4) h (by omega)) ⟨nin h (by omega), hq⟩)
set_option maxHeartbeats 4000000 in
theorem l7_sheetB {a : Int32} {s : xSt} {Q : Int32 → xSt → Prop} (h : ¬ ∃ j, j < 4 ∧ a = nI j) (hq : Q 0 s) : d7_isSheet a s Q := l7_inB (n := 3) (by omega) rfl h hq
set_option maxHeartbeats 4000000 in
theorem l7_sheetG {j : Nat} {s : xSt} {Q : Int32 → xSt → Prop} (h : j < 4) (hq : Q 1 s) : d7_isSheet (nI j) s Q := l7_inG (n := 3) (by omega) rfl h hq
set_option maxHeartbeats 4000000 in
theorem m_lost {t : Td} {k : Nat} {s s1 : xSt} (h : PM t s) (e : s1 = xuA s 13 36 k 0) : PM (tS t k (-1) 0 (tit t k)) s1 := by
  obtain ⟨g1, g3, g4, g5, g6⟩ := h
  subst e
  refine ⟨g1, g3, g4, fun q hq => ?_, g6⟩
  show xA (xuA s 13 36 k 0) 13 36 q = (if (if q = k then -1 else tsf t q) = -1 then 0 else 1) ∧ (¬ (if q = k then -1 else tsf t q) = -1 → _ = (if q = k then -1 else tsf t q)) ∧ (¬ (if q = k then -1 else tsf t q) = -1 → _ = nI (if q = k then 0 else tsz t q)) ∧ (¬ (if q = k then -1 else tsf t q) = -1 → ∀ j, j < (if q = k then 0 else tsz t q) → _ = (if q = k then tit t k else tit t q) j)
  rw [xA_xuA_eq, upd_ap]
  by_cases z : q = k
  · rw [if_pos z, if_pos z]
    exact ⟨rfl, fun w => absurd rfl w, fun w => absurd rfl w, fun w => absurd rfl w⟩
  · rw [if_neg z, if_neg z, if_neg z, if_neg z]
    exact g5 q hq
set_option maxHeartbeats 4000000 in
theorem q_lose {a : Int32} {σ : xSt} (h : RR σ) : d6_lose a σ (fun r s1 => d7_lose a s1 (fun r' s2 => r = r' ∧ RR s2)) := by
  obtain ⟨t, hT, hC, hM⟩ := h
  by_cases c : ∃ j, j < 4 ∧ a = nI j
  rotate_left
  · exact same (D6 := d6_lose a) (D7 := d7_lose a) hT hC hM (a := -2) (fun Q q => l6_sheetB c ⟨fun _ => q, fun ob e => by cases e⟩) (fun Q q => l7_sheetB c (bn_t rfl q))
  obtain ⟨k, hk, e⟩ := c
  subst e
  have x := hC.1.2.2.2.2.1 k hk
  by_cases z : tsf t k = -1
  · refine both (D6 := d6_lose (nI k)) (D7 := d7_lose (nI k)) (t' := tF t 1) (a := -10 - 1) hM (VT_tF hT) (fun Q hq => ?_) fun s1 Q p hq => ?_
    · refine l6_sheetG hk ⟨fun e => (by cases e), fun ob e hcl => ?_⟩
      cases e
      unfold d3_isLost
      rw [x.1]
      exact bn_t z (br_f (by decide) (c_find hC hq))
    · have y := p.2.2.2.1 k hk
      rw [if_pos z] at y
      refine l7_sheetG hk (bn_f (by decide) ⟨nin hk (by omega), ?_⟩)
      rw [ncl (by omega), y.1]
      exact bn_t rfl (m_find p hq)
  · refine both (D6 := d6_lose (nI k)) (D7 := d7_lose (nI k)) (t' := tS t k (-1) 0 (tit t k)) (a := nI (tsz t k)) hM (VT_tS hT (Or.inl rfl) (by omega)) (fun Q hq => ?_) fun s1 Q p hq => ?_
    · refine l6_sheetG hk ⟨fun e => (by cases e), fun ob e hcl => ?_⟩
      cases e
      unfold d3_isLost
      rw [x.1]
      refine bn_f z (br_t rfl ?_)
      intro v7 e7
      rw [x.2.1] at e7
      subst e7
      unfold d3_renew
      intro s1 e1 s2 e2
      have e2 : s2 = xsI s1 (9 + k) 2 0 := e2.trans (congrArg (xsI s1 (9 + k) 2) (by decide))
      have kk : xk (kO k) σ s2 := by
        subst e2 e1
        have f : ∀ a c, kO k a (9 + k) c = false := fun a c => by simp [kO]
        exact (xk.rf.sI (f _ _)).sI (f _ _)
      have i2 : xI s2 (9 + k) 2 = nI 0 := by subst e2; exact xI_xsI_eq _ _ _ _
      have i1 : xI s2 (9 + k) 1 = -1 := by subst e2 e1; rw [xI_xsI_ne (by omega), xI_xsI_eq]
      have g := c_sheet (it := tit t k) hC hk kk i1 i2 (fun j hj => absurd hj (Nat.not_lt_zero j))
      rw [show x_lim = 999 + 1 from rfl, d3_renew_L21, i2]
      exact br_t (Int32.le_refl _) (hq s2 g.1 g.2)
    · have y := p.2.2.2.1 k hk
      rw [if_neg z] at y
      refine l7_sheetG hk (bn_f (by decide) ⟨nin hk (by omega), ?_⟩)
      rw [ncl (by omega), y.1]
      refine bn_f (by decide) ⟨nin hk (by omega), ?_⟩
      intro s7 e7
      refine ⟨nin hk (by omega), ?_⟩
      have m := m_lost (k := k) p e7
      have r : xA s7 13 38 k = nI (tsz t k) := by rw [e7, xA_xuA_ne (by decide)]; exact y.2.2.1 z
      rw [r]
      exact hq s7 m (by subst e7; exact xk.rf.uA rfl)
