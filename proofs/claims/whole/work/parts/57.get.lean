-- get
set_option maxHeartbeats 4000000 in
theorem l6_formB {a : Int32} {s : xSt} {Q : Int32 → xSt → Prop} (h : ¬ ∃ j, j < 3 ∧ a = nI j) (hq : Q 0 s) : d6_isForm a s Q := ⟨fun _ => hq, fun z => br_t (badM (n := 2) (by omega) h z) hq⟩
set_option maxHeartbeats 4000000 in
theorem l6_formG {j : Nat} {s : xSt} {Q : Int32 → xSt → Prop} (h : j < 3) (hq : Q 1 s) : d6_isForm (nI j) s Q := br_f (nI_pos (by omega)) (br_f (show ¬ nI 2 < nI j from nlt (by omega) (by omega)) hq)
set_option maxHeartbeats 4000000 in
theorem c_refuse {t : Td} {k : Nat} {f i : Int32} {s : xSt} {Q : Int32 → xSt → Prop} (hT : VT t) (h : PC t s) (hk : k < 4)
    (q0 : ∀ j, j < tsz t k → i = nI j → ¬ tsf t k = -1 → tsf t k = f → Q 0 s)
    (q1 : tsf t k = -1 → ∀ s', PC (tF t 1) s' → xk kR s s' → Q (-10 - 1) s')
    (q2 : ¬ tsf t k = -1 → tsf t k = f → (¬ ∃ j, j < tsz t k ∧ i = nI j) → ∀ s', PC (tF t 2) s' → xk kR s s' → Q (-10 - 2) s')
    (q3 : ¬ tsf t k = -1 → ¬ tsf t k = f → ∀ s', PC (tF t 3) s' → xk kR s s' → Q (-10 - 3) s') : d6_itemRefusal (9 + k) f i s Q := by
  have x := h.1.2.2.2.2.1 k hk
  have z := hT.2.2.2.2.2.2.2 k hk
  unfold d6_itemRefusal d3_isLost
  rw [x.1]
  refine ⟨fun a => br_t rfl ⟨fun b0 => ?_, fun b => c_find h (q3 a (fun w => b (x.1.trans w)))⟩, fun a => br_f (by decide) (c_find h (q1 a))⟩
  have b : tsf t k = f := x.1.symm.trans b0
  unfold d3_hasItem
  rw [x.2.1]
  by_cases c : ∃ j, j < tsz t k ∧ i = nI j
  · obtain ⟨j, hj, e⟩ := c
    subst e
    exact br_f (nI_pos (by omega)) (br_f (nle hj (by omega)) (br_f (nle (a := 60) (by omega) (by omega)) (br_f (by decide) (q0 j hj rfl a b))))
  · exact ⟨fun _ => br_t rfl (c_find h (q2 a b c)), fun y => br_t (badP c y) (br_t rfl (c_find h (q2 a b c)))⟩
set_option maxHeartbeats 4000000 in
theorem m_lacks {t : Td} {k : Nat} {f i : Int32} {s : xSt} {Q : Int32 → xSt → Prop} (hT : VT t) (h : PM t s) (hk : k < 4)
    (q0 : ∀ j, j < tsz t k → i = nI j → ¬ tsf t k = -1 → tsf t k = f → Q 0 s)
    (q1 : tsf t k = -1 → Q 1 s)
    (q2 : ¬ tsf t k = -1 → tsf t k = f → (¬ ∃ j, j < tsz t k ∧ i = nI j) → Q 2 s)
    (q3 : ¬ tsf t k = -1 → ¬ tsf t k = f → Q 3 s) : d7_lacks (nI k) f i s Q := by
  have y := h.2.2.2.1 k hk
  have z := hT.2.2.2.2.2.2.2 k hk
  unfold d7_lacks
  rw [ncl (by omega)]
  refine ⟨nin hk (by omega), ?_⟩
  by_cases a : tsf t k = -1
  · rw [if_pos a] at y
    rw [y.1]
    exact bn_t rfl (q1 a)
  rw [if_neg a] at y
  rw [y.1, y.2.1 a, y.2.2.1 a]
  refine bn_f (by decide) ⟨nin hk (by omega), ⟨fun b => ⟨nin hk (by omega), ?_⟩, fun b => q3 a b⟩⟩
  by_cases c : ∃ j, j < tsz t k ∧ i = nI j
  · obtain ⟨j, hj, e⟩ := c
    subst e
    exact l7_inG (n := tsz t k - 1) (by omega) (pk_sub (b := 1) (by omega)) (by omega) (br_f (by decide) (q0 j hj rfl a b))
  · rcases Nat.eq_zero_or_pos (tsz t k) with w | w
    · rw [w]
      exact l7_in (fun _ => br_t rfl (q2 a b c)) fun u v => absurd (Int32.lt_of_lt_of_le (by decide) (Int32.not_lt.mp u)) v
    · exact l7_inB (n := tsz t k - 1) (by omega) (pk_sub (b := 1) (by omega)) (by rw [show tsz t k - 1 + 1 = tsz t k by omega]; exact c) (br_t rfl (q2 a b c))
set_option maxHeartbeats 4000000 in
theorem q_get {a f i : Int32} {σ : xSt} (h : RR σ) : d6_get a f i σ (fun r s1 => d7_get a f i s1 (fun r' s2 => r = r' ∧ RR s2)) := by
  obtain ⟨t, hT, hC, hM⟩ := h
  by_cases c : ∃ j, j < 4 ∧ a = nI j
  rotate_left
  · exact same (D6 := d6_get a f i) (D7 := d7_get a f i) hT hC hM (a := -2147483648) (fun Q q => l6_sheetB c ⟨fun _ => q, fun ob e => by cases e⟩) (fun Q q => l7_sheetB c (br_t rfl q))
  obtain ⟨k, hk, e⟩ := c
  subst e
  by_cases c : ∃ j, j < 3 ∧ f = nI j
  rotate_left
  · refine same (D6 := d6_get (nI k) f i) (D7 := d7_get (nI k) f i) hT hC hM (a := -2147483648) (fun Q q => l6_sheetG hk ⟨fun e => (by cases e), fun ob e hcl => l6_formB c (br_t rfl q)⟩) (fun Q q => l7_sheetG hk (br_f (by decide) (l7_inB (n := 2) (by omega) rfl c (bn_t rfl q))))
  obtain ⟨l, hl, e⟩ := c
  subst e
  have z := hT.2.2.2.2.2.2.2 k hk
  have start6 : ∀ Q : Int32 → xSt → Prop, d6_itemRefusal (9 + k) (nI l) i σ (fun v8 s7 => (v8 = 0 → d3_item (9 + k) i s7 (fun v11 s10 => Q v11 s10)) ∧ (¬ v8 = 0 → Q (-2147483648) s7)) → d6_get (nI k) (nI l) i σ Q := fun Q g => l6_sheetG hk ⟨fun e => (by cases e), fun ob e hcl => by
    cases e
    exact l6_formG hl (br_f (by decide) g)⟩
  have start7 : ∀ s1, ∀ Q : Int32 → xSt → Prop, d7_lacks (nI k) (nI l) i s1 (fun v8 s7 => (v8 ≤ 0 → vp_in ((60 * nI k) + i) 240 ∧ Q (xA s7 13 39 ((60 * nI k) + i).toNatClampNeg) s7) ∧ (¬ v8 ≤ 0 → ∀ s11 : xSt, s11 = xsI s7 13 41 v8 → Q (-2147483648) s11)) → d7_get (nI k) (nI l) i s1 Q := fun s1 Q g => l7_sheetG hk (br_f (by decide) (l7_inG (n := 2) (by omega) rfl hl (bn_f (by decide) g)))
  have fnd : ∀ (v : Int32) (s1 : xSt) (Q : Int32 → xSt → Prop), PM t s1 → (∀ s', PM (tF t v) s' → xk kS s1 s' → Q (-2147483648) s') → ∀ s11 : xSt, s11 = xsI s1 13 41 v → Q (-2147483648) s11 := fun v s1 Q p hq s11 e => m_find (v := v) (Q := fun _ s => Q (-2147483648) s) p (fun s' p' k' => hq s' p' k') s11 e
  by_cases A : tsf t k = -1
  · refine both (D6 := d6_get (nI k) (nI l) i) (D7 := d7_get (nI k) (nI l) i) (t' := tF t 1) (a := -2147483648) hM (VT_tF hT) (fun Q hq => start6 Q (c_refuse hT hC hk (fun _ _ _ w => absurd A w) (fun _ s' p k' => br_f (by decide) (hq s' p k')) (fun w => absurd A w) (fun w => absurd A w))) fun s1 Q p hq => start7 s1 Q (m_lacks hT p hk (fun _ _ _ w => absurd A w) (fun _ => br_f (by decide) (fnd 1 s1 Q p hq)) (fun w => absurd A w) (fun w => absurd A w))
  by_cases B : tsf t k = nI l
  rotate_left
  · refine both (D6 := d6_get (nI k) (nI l) i) (D7 := d7_get (nI k) (nI l) i) (t' := tF t 3) (a := -2147483648) hM (VT_tF hT) (fun Q hq => start6 Q (c_refuse hT hC hk (fun _ _ _ _ w => absurd w B) (fun w => absurd w A) (fun _ w => absurd w B) (fun _ _ s' p k' => br_f (by decide) (hq s' p k')))) fun s1 Q p hq => start7 s1 Q (m_lacks hT p hk (fun _ _ _ _ w => absurd w B) (fun w => absurd w A) (fun _ w => absurd w B) (fun _ _ => br_f (by decide) (fnd 3 s1 Q p hq)))
  by_cases c : ∃ j, j < tsz t k ∧ i = nI j
  rotate_left
  · refine both (D6 := d6_get (nI k) (nI l) i) (D7 := d7_get (nI k) (nI l) i) (t' := tF t 2) (a := -2147483648) hM (VT_tF hT) (fun Q hq => start6 Q (c_refuse hT hC hk (fun j hj w => absurd ⟨j, hj, w⟩ c) (fun w => absurd w A) (fun _ _ _ s' p k' => br_f (by decide) (hq s' p k')) (fun _ w => absurd B w))) fun s1 Q p hq => start7 s1 Q (m_lacks hT p hk (fun j hj w => absurd ⟨j, hj, w⟩ c) (fun w => absurd w A) (fun _ _ _ => br_f (by decide) (fnd 2 s1 Q p hq)) (fun _ w => absurd B w))
  obtain ⟨j, hj, e⟩ := c
  subst e
  have x := hC.1.2.2.2.2.1 k hk
  refine both (D6 := d6_get (nI k) (nI l) (nI j)) (D7 := d7_get (nI k) (nI l) (nI j)) (a := tit t k j) hM hT (fun Q hq => start6 Q (c_refuse hT hC hk (fun _ _ _ _ _ => br_t rfl ?_) (fun w => absurd w A) (fun _ _ w => absurd ⟨j, hj, rfl⟩ w) (fun _ w => absurd B w))) fun s1 Q p hq => start7 s1 Q (m_lacks hT p hk (fun _ _ _ _ _ => br_t (by decide) ?_) (fun w => absurd w A) (fun _ _ w => absurd ⟨j, hj, rfl⟩ w) (fun _ w => absurd B w))
  · unfold d3_item d3_hasItem
    rw [x.2.1]
    refine br_f (nI_pos (by omega)) (br_f (nle hj (by omega)) (br_f (nle (a := 60) (by omega) (by omega)) (br_f (by decide) ⟨nin (by omega) (by omega), ?_⟩)))
    rw [ncl (by omega), x.2.2 j hj]; exact hq σ hC xk.rf
  · have y := p.2.2.2.1 k hk
    rw [show (60 : Int32) * nI k + nI j = nI (60 * k + j) by rw [show (60 : Int32) = nI 60 from rfl, pk_mul, nI_add], ncl (by omega)]
    refine ⟨nin (by omega) (by omega), ?_⟩
    rw [y.2.2.2 A j hj]; exact hq s1 p xk.rf
