-- put
def nw (f v : Int32) : Int32 := if f = 0 then v.toInt8.toInt32 else if f = 1 then v.toInt16.toInt32 else v
set_option maxHeartbeats 4000000 in
theorem m_item {t : Td} {k j : Nat} {w : Int32} {s : xSt} (hT : VT t) (h : PM t s) (hj : j < 60) : PM (tS t k (tsf t k) (tsz t k) (upd (tit t k) j w)) (xuA s 13 39 (60 * k + j) w) := by
  obtain ⟨g1, g3, g4, g5, g6⟩ := h
  refine ⟨g1, g3, g4, fun q hq => ?_, g6⟩
  have y := g5 q hq
  have z := hT.2.2.2.2.2.2.2 q hq
  have ef : (if q = k then tsf t k else tsf t q) = tsf t q := by
    by_cases c : q = k
    · rw [if_pos c, c]
    · rw [if_neg c]
  have ez : (if q = k then tsz t k else tsz t q) = tsz t q := by
    by_cases c : q = k
    · rw [if_pos c, c]
    · rw [if_neg c]
  show xA s 13 36 q = (if (if q = k then tsf t k else tsf t q) = -1 then 0 else 1) ∧ (¬ (if q = k then tsf t k else tsf t q) = -1 → xA s 13 37 q = (if q = k then tsf t k else tsf t q)) ∧ (¬ (if q = k then tsf t k else tsf t q) = -1 → xA s 13 38 q = nI (if q = k then tsz t k else tsz t q)) ∧ (¬ (if q = k then tsf t k else tsf t q) = -1 → ∀ i, i < (if q = k then tsz t k else tsz t q) → xA (xuA s 13 39 (60 * k + j) w) 13 39 (60 * q + i) = (if q = k then upd (tit t k) j w else tit t q) i)
  rw [ef, ez]
  refine ⟨y.1, y.2.1, y.2.2.1, fun A i hi => ?_⟩
  rw [xA_xuA_eq, upd_ap]
  by_cases c : q = k
  · subst c
    rw [if_pos rfl, upd_ap]
    by_cases d : i = j
    · subst d
      rw [if_pos rfl, if_pos rfl]
    · rw [if_neg (by omega), if_neg d]; exact y.2.2.2 A i hi
  · rw [if_neg c, if_neg (by omega)]; exact y.2.2.2 A i hi
set_option maxHeartbeats 4000000 in
theorem q_put {a f i v : Int32} {σ : xSt} (h : RR σ) : d6_put a f i v σ (fun r s1 => d7_put a f i v s1 (fun r' s2 => r = r' ∧ RR s2)) := by
  obtain ⟨t, hT, hC, hM⟩ := h
  by_cases c : ∃ j, j < 4 ∧ a = nI j
  rotate_left
  · exact same (D6 := d6_put a f i v) (D7 := d7_put a f i v) hT hC hM (a := -2) (fun Q q => l6_sheetB c ⟨fun _ => q, fun ob e => by cases e⟩) (fun Q q => l7_sheetB c (br_t rfl q))
  obtain ⟨k, hk, e⟩ := c
  subst e
  by_cases c : ∃ j, j < 3 ∧ f = nI j
  rotate_left
  · refine same (D6 := d6_put (nI k) f i v) (D7 := d7_put (nI k) f i v) hT hC hM (a := -2) (fun Q q => l6_sheetG hk ⟨fun e => (by cases e), fun ob e hcl => l6_formB c (bn_t rfl q)⟩) (fun Q q => l7_sheetG hk (br_f (by decide) (l7_inB (n := 2) (by omega) rfl c (bn_t rfl q))))
  obtain ⟨l, hl, e⟩ := c
  subst e
  have z := hT.2.2.2.2.2.2.2 k hk
  have start6 : ∀ Q : Int32 → xSt → Prop, d6_itemRefusal (9 + k) (nI l) i σ (fun v8 s7 => (v8 = 0 → d3_setItem (9 + k) i v s7 (fun s10 => Q 1 s10)) ∧ (¬ v8 = 0 → Q v8 s7)) → d6_put (nI k) (nI l) i v σ Q := fun Q g => l6_sheetG hk ⟨fun e => (by cases e), fun ob e hcl => by
    cases e
    exact l6_formG hl (bn_f (by decide) g)⟩
  have start7 : ∀ s1, ∀ Q : Int32 → xSt → Prop, d7_lacks (nI k) (nI l) i s1 (fun v8 s7 => (v8 ≤ 0 → d7_keep (nI k) i v s7 (fun s10 => Q 1 s10)) ∧ (¬ v8 ≤ 0 → d7_meets v8 s7 (fun v12 s11 => Q v12 s11))) → d7_put (nI k) (nI l) i v s1 Q := fun s1 Q g => l7_sheetG hk (br_f (by decide) (l7_inG (n := 2) (by omega) rfl hl (bn_f (by decide) g)))
  by_cases A : tsf t k = -1
  · refine both (D6 := d6_put (nI k) (nI l) i v) (D7 := d7_put (nI k) (nI l) i v) (t' := tF t 1) (a := -10 - 1) hM (VT_tF hT) (fun Q hq => start6 Q (c_refuse hT hC hk (fun _ _ _ w => absurd A w) (fun _ s' p k' => br_f (by decide) (hq s' p k')) (fun w => absurd A w) (fun w => absurd A w))) fun s1 Q p hq => start7 s1 Q (m_lacks hT p hk (fun _ _ _ w => absurd A w) (fun _ => br_f (by decide) (m_find p hq)) (fun w => absurd A w) (fun w => absurd A w))
  by_cases B : tsf t k = nI l
  rotate_left
  · refine both (D6 := d6_put (nI k) (nI l) i v) (D7 := d7_put (nI k) (nI l) i v) (t' := tF t 3) (a := -10 - 3) hM (VT_tF hT) (fun Q hq => start6 Q (c_refuse hT hC hk (fun _ _ _ _ w => absurd w B) (fun w => absurd w A) (fun _ w => absurd w B) (fun _ _ s' p k' => br_f (by decide) (hq s' p k')))) fun s1 Q p hq => start7 s1 Q (m_lacks hT p hk (fun _ _ _ _ w => absurd w B) (fun w => absurd w A) (fun _ w => absurd w B) (fun _ _ => br_f (by decide) (m_find p hq)))
  by_cases c : ∃ j, j < tsz t k ∧ i = nI j
  rotate_left
  · refine both (D6 := d6_put (nI k) (nI l) i v) (D7 := d7_put (nI k) (nI l) i v) (t' := tF t 2) (a := -10 - 2) hM (VT_tF hT) (fun Q hq => start6 Q (c_refuse hT hC hk (fun j hj w => absurd ⟨j, hj, w⟩ c) (fun w => absurd w A) (fun _ _ _ s' p k' => br_f (by decide) (hq s' p k')) (fun _ w => absurd B w))) fun s1 Q p hq => start7 s1 Q (m_lacks hT p hk (fun j hj w => absurd ⟨j, hj, w⟩ c) (fun w => absurd w A) (fun _ _ _ => br_f (by decide) (m_find p hq)) (fun _ w => absurd B w))
  obtain ⟨j, hj, e⟩ := c
  subst e
  have x := hC.1.2.2.2.2.1 k hk
  refine both (D6 := d6_put (nI k) (nI l) (nI j) v) (D7 := d7_put (nI k) (nI l) (nI j) v) (t' := tS t k (tsf t k) (tsz t k) (upd (tit t k) j (nw (tsf t k) v))) (a := 1) hM (VT_tS hT (hT.2.2.2.2.2.2.1 k hk) z) (fun Q hq => start6 Q (c_refuse hT hC hk (fun _ _ _ _ _ => br_t rfl ?_) (fun w => absurd w A) (fun _ _ w => absurd ⟨j, hj, rfl⟩ w) (fun _ w => absurd B w))) fun s1 Q p hq => start7 s1 Q (m_lacks hT p hk (fun _ _ _ _ _ => br_t (by decide) ?_) (fun w => absurd w A) (fun _ _ w => absurd ⟨j, hj, rfl⟩ w) (fun _ w => absurd B w))
  · have fin : ∀ s5 : xSt, s5 = xuA σ (9 + k) 0 j (nw (tsf t k) v) → Q 1 s5 := by
      intro s5 e5
      have g := c_sheet (k := k) (fm := tsf t k) (sz := tsz t k) (it := upd (tit t k) j (nw (tsf t k) v)) (s1 := s5) hC hk (by subst e5; exact xk.rf.uA (by simp [kO])) (by subst e5; exact x.1) (by subst e5; exact x.2.1) (fun q hq => by
        subst e5
        rw [xA_xuA_eq, upd_ap, upd_ap]
        split
        · rfl
        · exact x.2.2 q hq)
      exact hq s5 g.1 g.2
    unfold d3_setItem d3_hasItem
    rw [x.2.1]
    refine br_f (nI_pos (by omega)) (br_f (nle hj (by omega)) (br_f (nle (a := 60) (by omega) (by omega)) (bn_f (by decide) ?_)))
    rw [x.1, ncl (by omega)]
    unfold nw at fin
    refine ⟨fun p => ⟨fun q => ⟨nin (by omega) (by omega), ?_⟩, fun q => ⟨nin (by omega) (by omega), ?_⟩⟩, fun p => ⟨nin (by omega) (by omega), ?_⟩⟩
    · rw [if_neg p, if_neg q] at fin; exact fin
    · rw [if_neg p, if_pos q] at fin; exact fin
    · rw [if_pos p] at fin; exact fin
  · have y := p.2.2.2.1 k hk
    have fin : ∀ s5 : xSt, s5 = xuA s1 13 39 (60 * k + j) (nw (tsf t k) v) → Q 1 s5 := by
      intro s5 e5
      subst e5
      exact hq _ (m_item hT p (by omega)) (xk.rf.uA rfl)
    unfold d7_keep
    rw [show (60 : Int32) * nI k + nI j = nI (60 * k + j) by rw [show (60 : Int32) = nI 60 from rfl, pk_mul, nI_add], ncl (a := k) (by omega), ncl (a := 60 * k + j) (by omega), y.2.1 A]
    unfold nw at fin
    refine ⟨nin hk (by omega), ⟨fun p => ⟨nin hk (by omega), ⟨fun q => ⟨nin (by omega) (by omega), ?_⟩, fun q => ⟨nin (by omega) (by omega), ?_⟩⟩⟩, fun p => ⟨nin (by omega) (by omega), ?_⟩⟩⟩
    · rw [if_neg p, if_neg q] at fin; exact fin
    · rw [if_neg p, if_pos q] at fin; exact fin
    · rw [if_pos p] at fin; exact fin
