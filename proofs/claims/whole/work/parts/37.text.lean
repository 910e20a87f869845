-- calls: texts
def RR (s : xSt) : Prop := ∃ t, VT t ∧ PC t s ∧ PM t s
set_option maxHeartbeats 4000000 in
theorem both {t t' : Td} {a : Int32} {σ : xSt} {D6 D7 : xSt → (Int32 → xSt → Prop) → Prop} (hM : PM t σ) (hV : VT t') (c : ∀ Q, (∀ s', PC t' s' → xk kR σ s' → Q a s') → D6 σ Q) (m : ∀ s1 Q, PM t s1 → (∀ s', PM t' s' → xk kS s1 s' → Q a s') → D7 s1 Q) : D6 σ (fun r s1 => D7 s1 (fun r' s2 => r = r' ∧ RR s2)) :=
  c _ fun s1 p1 k1 => m s1 _ (hM.stR k1) fun s2 p2 k2 => ⟨rfl, t', hV, p1.stS k2, p2⟩
def tx (t : Td) (n0 : Nat) (f0 : Nat → Int32) (n1 : Nat) (f1 : Nat → Int32) : Td := (n0, f0, n1, f1, t.2.2.2.2)
set_option maxHeartbeats 4000000 in
theorem VT_tx {t : Td} {n0 n1 : Nat} {f0 f1 : Nat → Int32} (h : VT t) (h0 : n0 ≤ 12) (h1 : n1 ≤ 31) : VT (tx t n0 f0 n1 f1) := ⟨h0, h1, h.2.2⟩
def k6t (t o k : Nat) : Bool := !(o == 1) && !(o == 2) && !(o == 3 && ((t == 1 && decide (k ≤ 3)) || (t == 0 && k == 4))) && !(o == 0 && t == 0 && k == 11)
set_option maxHeartbeats 4000000 in
theorem k6r_t {s s1 : xSt} (h : xk k6r s s1) : xk k6t s s1 := h.mono (fun t o k q => by
  simp only [k6r, k6t, Bool.not_eq_true', Bool.and_eq_true, Bool.and_eq_false_iff, Bool.or_eq_false_iff, beq_eq_false_iff_ne, decide_eq_false_iff_not] at q ⊢
  omega)
set_option maxHeartbeats 4000000 in
theorem l6_retext {t : Td} {s0 s : xSt} {Q : xSt → Prop} {n0 n1 : Nat} {f0 f1 : Nat → Int32} (h : PC0 t s0) (hT : VT (tx t n0 f0 n1 f1)) (k : xk k6t s0 s) (hX : X6 (tx t n0 f0 n1 f1) s) (hq : ∀ s', PC (tx t n0 f0 n1 f1) s' → xk kR s0 s' → Q s') : d6_readTexts s Q := by
  refine l6_readTexts hT hX fun s' c1 c2 k1 => ?_
  have k2 : xk k6t s0 s' := k.tr (k6r_t k1)
  obtain ⟨-, -, g1, g2, g3, g4⟩ := h
  refine hq s' ⟨⟨hX.keep k1 rfl rfl rfl rfl, c1, ⟨by rw [k2.1 3 8 rfl]; exact g1.1, ?_⟩, ⟨by rw [k2.1 7 3 rfl]; exact g2.1, ?_⟩, fun q hq => ?_, by rw [k2.1 0 12 rfl]; exact g4⟩, Or.inl c2⟩ (k2.mono fun t o k q => ?_)
  · rw [k2.2.1 3 5 rfl, k2.2.1 3 6 rfl, k2.2.1 3 7 rfl]; exact g1.2
  · rw [k2.2.1 7 0 rfl, k2.2.1 7 1 rfl, k2.2.1 7 2 rfl]; exact g2.2
  · have e : ∀ a c, k6t a (9 + q) c = true := fun a c => by
      simp only [k6t, Bool.not_eq_true', Bool.and_eq_true, Bool.and_eq_false_iff, Bool.or_eq_false_iff, beq_eq_false_iff_ne, decide_eq_false_iff_not]
      omega
    rw [k2.1 (9 + q) 1 (e _ _), k2.1 (9 + q) 2 (e _ _), k2.2.1 (9 + q) 0 (e _ _)]; exact g3 q hq
  · simp only [k6t, kR, Bool.not_eq_true', Bool.and_eq_true, Bool.and_eq_false_iff, Bool.or_eq_false_iff, beq_eq_false_iff_ne, decide_eq_false_iff_not, beq_iff_eq] at q ⊢
    omega
set_option maxHeartbeats 4000000 in
theorem frow {f g : Nat → Int32} {n : Nat} {v : Int32} (h : ∀ k, k < n → f k = g k) : ∀ k, k < n + 1 → upd f n v k = upd g n v k := by
  intro k hk
  rw [upd_ap, upd_ap]
  split
  · rfl
  · exact h k (by omega)
set_option maxHeartbeats 4000000 in
theorem cut {n k : Nat} (hk : k ≤ n) (hn : n < 1000) : (if (0 : Int32) < (if nI n < nI k then nI n else nI k) then (if nI n < nI k then nI n else nI k) else 0) = nI k := by
  rw [if_neg (nlt hk (by omega))]
  split
  · rfl
  · rename_i q
    rcases Nat.eq_zero_or_pos k with z | z
    · subst z; rfl
    · exact absurd (nI_lt (a := 0) z (by omega)) q
set_option maxHeartbeats 4000000 in
theorem is01 {a : Int32} (h0 : ¬ a < 0) (h1 : ¬ 1 < a) : a = 0 ∨ a = 1 := by
  obtain ⟨j, hj, e⟩ := nI_of2 (x := a) (M := 1) (n := 1) (by decide) h0 (Int32.not_lt.mp h1)
  rcases (show j = 0 ∨ j = 1 by omega) with q | q
  · subst q; exact Or.inl e
  · subst q; exact Or.inr e
set_option maxHeartbeats 4000000 in
theorem l7_notext {a : Int32} {s : xSt} {Q : Int32 → xSt → Prop} (h0 : ¬ a = 0) (h1 : ¬ a = 1) (hq : Q 0 s) : d7_isText a s Q := by
  unfold d7_isText
  exact l7_in (fun _ => hq) (fun q1 q2 => by rcases is01 q1 q2 with e | e; exact absurd e h0; exact absurd e h1)
set_option maxHeartbeats 4000000 in
theorem same {t : Td} {s : xSt} {a : Int32} {D6 D7 : xSt → (Int32 → xSt → Prop) → Prop} (hT : VT t) (hC : PC t s) (hM : PM t s) (c : ∀ Q : Int32 → xSt → Prop, Q a s → D6 s Q) (m : ∀ Q : Int32 → xSt → Prop, Q a s → D7 s Q) : D6 s (fun r s1 => D7 s1 (fun r' s2 => r = r' ∧ RR s2)) :=
  c _ (m _ ⟨rfl, t, hT, hC, hM⟩)
set_option maxHeartbeats 4000000 in
theorem c_type0 {t : Td} {b : Int32} {s : xSt} {Q : Int32 → xSt → Prop} (hT : VT t) (h : PC t s) (hb : ¬ b < 0) (hb2 : b ≤ 255) (hn : tn0 t < 12) (hq : ∀ s', PC (tx t (tn0 t + 1) (upd (tf0 t) (tn0 t) b) (tn1 t) (tf1 t)) s' → xk kR s s' → Q (nI (tn0 t + 1)) s') : d6_type 0 b s Q := by
  have x := h.1.1
  unfold d6_type d6_textOf
  refine bn_t rfl ⟨fun e => (by cases e), fun ob e hcl => ?_⟩
  cases e
  refine br_f hb (br_t hb2 ?_)
  unfold d5_append
  rw [x.1, ncl (by omega)]
  refine br_f (nI_pos (by omega)) (br_t (nI_lt (b := 12) hn (by omega)) ⟨nin (n := 12) hn (by omega), ?_⟩)
  intro s4 e4; subst e4
  rw [xI_xuA, x.1]
  intro s5 e5; subst e5
  refine bn_f (by decide) ?_
  exact l6_retext (n0 := tn0 t + 1) (f0 := upd (tf0 t) (tn0 t) b) (n1 := tn1 t) (f1 := tf1 t) h.1 (VT_tx hT (by omega) hT.2.1) ((xk.rf.uA rfl).sI rfl) ⟨by rw [xI_xsI_eq, nI_1]; rfl, by rw [xA_xsI, xA_xuA_eq]; exact frow x.2.1, by rw [xI_xsI_ne (by decide)]; exact x.2.2.1, by rw [xA_xsI, xA_xuA_ne (by decide)]; exact x.2.2.2⟩ fun s' p k => by
    show Q (xI s' 1 1) s'
    rw [p.1.1.1]; exact hq s' p k
set_option maxHeartbeats 4000000 in
theorem m_type0 {t : Td} {b : Int32} {s : xSt} {Q : Int32 → xSt → Prop} (hT : VT t) (h : PM t s) (hb : ¬ b < 0) (hb2 : b ≤ 255) (hn : tn0 t < 12) (hq : ∀ s', PM (tx t (tn0 t + 1) (upd (tf0 t) (tn0 t) b) (tn1 t) (tf1 t)) s' → xk kS s s' → Q (nI (tn0 t + 1)) s') : d7_type 0 b s Q := by
  have x := h.1
  unfold d7_type d7_isText
  refine l7_in (fun z => absurd z (by decide)) fun _ _ => br_f (by decide) (l7_in (fun z => ?_) fun _ _ => ?_)
  · rcases z with z | z
    · exact absurd z hb
    · exact absurd z (Int32.not_lt.mpr hb2)
  refine bn_f (by decide) ?_
  rw [z0, x.1]
  refine ⟨v02, ?_⟩
  unfold jn
  refine bn_t rfl (bn_f (nne (b := 12) (by omega) (by omega) (by omega)) ⟨v02, ?_⟩)
  rw [show (31 : Int32) * 0 + nI (tn0 t) = nI (tn0 t) from by rw [show (31 : Int32) * 0 = nI 0 from rfl, nI_add, Nat.zero_add], ncl (by omega)]
  refine ⟨nin (n := 62) (by omega) (by omega), ?_⟩
  intro s14 e14; subst e14
  rw [xA_xuA_ne (by decide), x.1, nI_1]
  refine ⟨v02, v02, ?_⟩
  intro s17 e17; subst e17
  rw [xA_xuA_eq, upd_eq]
  refine ⟨v02, ?_⟩
  refine hq _ ⟨⟨?_, ?_, ?_, ?_⟩, h.2⟩ ((xk.rf.uA rfl).uA rfl)
  · rw [xA_xuA_eq, upd_eq]; rfl
  · rw [xA_xuA_ne (by decide), xA_xuA_eq]; exact frow x.2.1
  · rw [xA_xuA_eq, upd_ne (by decide), xA_xuA_ne (by decide)]; exact x.2.2.1
  · intro j hj
    have hj : j < tn1 t := hj
    rw [xA_xuA_ne (by decide), xA_xuA_eq, upd_ne (by omega)]; exact x.2.2.2 j hj
set_option maxHeartbeats 4000000 in
theorem c_cut0 {t : Td} {m : Nat} {a : Int32} {s : xSt} {Q : xSt → Prop} (hT : VT t) (h : PC t s) (hm : m ≤ tn0 t) (ha : a = nI m) (hq : ∀ s', PC (tx t (m) (tf0 t) (tn1 t) (tf1 t)) s' → xk kR s s' → Q s') : d5_cutTo 1 a s (fun s6 => d6_readTexts s6 (fun s7 => Q s7)) := by
  have x := h.1.1
  have hn := hT.1
  unfold d5_cutTo
  subst ha
  rw [x.1, cut hm (by omega)]
  intro s1 e1; subst e1
  exact l6_retext (n0 := m) (f0 := tf0 t) (n1 := tn1 t) (f1 := tf1 t) h.1 (VT_tx hT (by omega) hT.2.1) (xk.rf.sI rfl) ⟨xI_xsI_eq _ _ _ _, fun j hj => x.2.1 j (Nat.lt_of_lt_of_le hj hm), by rw [xI_xsI_ne (by decide)]; exact x.2.2.1, x.2.2.2⟩ hq
set_option maxHeartbeats 4000000 in
theorem c_wipe0 {t : Td} {s : xSt} {Q : Int32 → xSt → Prop} (hT : VT t) (h : PC t s) (hq : ∀ s', PC (tx t (0) (tf0 t) (tn1 t) (tf1 t)) s' → xk kR s s' → Q (nI (tn0 t)) s') : d6_wipe 0 s Q := by
  unfold d6_wipe d6_textOf d5_size
  refine bn_t rfl ⟨fun e => (by cases e), fun ob e hcl => ?_⟩
  cases e
  rw [h.1.1.1]
  exact c_cut0 (m := 0) hT h (by omega) rfl hq
set_option maxHeartbeats 4000000 in
theorem c_undo0 {t : Td} {s : xSt} {Q : Int32 → xSt → Prop} (hT : VT t) (h : PC t s) (hn : 0 < tn0 t) (hq : ∀ s', PC (tx t (tn0 t - 1) (tf0 t) (tn1 t) (tf1 t)) s' → xk kR s s' → Q (nI (tn0 t - 1)) s') : d6_undo 0 s Q := by
  have hN := hT.1
  unfold d6_undo d6_textOf d5_size
  refine bn_t rfl ⟨fun e => (by cases e), fun ob e hcl => ?_⟩
  cases e
  rw [h.1.1.1]
  refine bn_f (nne (b := 0) (by omega) (by omega) (by omega)) ?_
  refine c_cut0 (m := tn0 t - 1) hT h (by omega) (pk_sub (b := 1) (by omega)) fun s' p k => ?_
  rw [p.1.1.1]; exact hq s' p k
set_option maxHeartbeats 4000000 in
theorem m_cut0 {t : Td} {m : Nat} {s : xSt} {v : Int32} (hT : VT t) (h : PM t s) (hm : m ≤ tn0 t) (hv : v = nI m) : PM (tx t (m) (tf0 t) (tn1 t) (tf1 t)) (xuA s 13 0 0 v) ∧ xk kS s (xuA s 13 0 0 v) := by
  have x := h.1
  refine ⟨⟨⟨?_, ?_, ?_, ?_⟩, h.2⟩, xk.rf.uA rfl⟩
  · rw [xA_xuA_eq, upd_eq]; exact hv
  · intro j hj
    exact x.2.1 j (Nat.lt_of_lt_of_le hj hm)
  · rw [xA_xuA_eq, upd_ne (by decide)]; exact x.2.2.1
  · exact x.2.2.2
set_option maxHeartbeats 4000000 in
theorem m_wipe0 {t : Td} {s : xSt} {Q : Int32 → xSt → Prop} (hT : VT t) (h : PM t s) (hq : ∀ s', PM (tx t (0) (tf0 t) (tn1 t) (tf1 t)) s' → xk kS s s' → Q (nI (tn0 t)) s') : d7_wipe 0 s Q := by
  unfold d7_wipe d7_isText
  refine l7_in (fun z => absurd z (by decide)) fun _ _ => ?_
  refine bn_f (by decide) ?_
  rw [z0, h.1.1]
  refine ⟨v02, ?_⟩
  intro v5 e5; subst e5
  refine ⟨v02, ?_⟩
  intro s7 e7; subst e7
  have g := m_cut0 (m := 0) (v := 0) hT h (by omega) rfl
  exact hq _ g.1 g.2
set_option maxHeartbeats 4000000 in
theorem m_undo0 {t : Td} {s : xSt} {Q : Int32 → xSt → Prop} (hT : VT t) (h : PM t s) (hn : 0 < tn0 t) (hq : ∀ s', PM (tx t (tn0 t - 1) (tf0 t) (tn1 t) (tf1 t)) s' → xk kS s s' → Q (nI (tn0 t - 1)) s') : d7_undo 0 s Q := by
  have hN := hT.1
  unfold d7_undo d7_isText
  refine l7_in (fun z => absurd z (by decide)) fun _ _ => ?_
  refine bn_f (by decide) ?_
  rw [z0, h.1.1]
  refine ⟨v02, bn_f (nne (b := 0) (by omega) (by omega) (by omega)) ⟨v02, v02, ?_⟩⟩
  intro s8 e8; subst e8
  have g := m_cut0 (m := tn0 t - 1) (v := nI (tn0 t - 1)) hT h (by omega) rfl
  refine ⟨v02, ?_⟩
  rw [xA_xuA_eq, upd_eq, show nI (tn0 t) - (1 : Int32) = nI (tn0 t - 1) from pk_sub (b := 1) (by omega)]
  exact hq _ g.1 g.2
set_option maxHeartbeats 4000000 in
theorem c_type1 {t : Td} {b : Int32} {s : xSt} {Q : Int32 → xSt → Prop} (hT : VT t) (h : PC t s) (hb : ¬ b < 0) (hb2 : b ≤ 255) (hn : tn1 t < 31) (hq : ∀ s', PC (tx t (tn0 t) (tf0 t) (tn1 t + 1) (upd (tf1 t) (tn1 t) b)) s' → xk kR s s' → Q (nI (tn1 t + 1)) s') : d6_type 1 b s Q := by
  have x := h.1.1
  unfold d6_type d6_textOf
  refine bn_f (by decide) (bn_t rfl ⟨fun e => (by cases e), fun ob e hcl => ?_⟩)
  cases e
  refine br_f hb (br_t hb2 ?_)
  unfold d5_append
  rw [x.2.2.1, ncl (by omega)]
  refine br_f (nI_pos (by omega)) (br_t (nI_lt (b := 31) hn (by omega)) ⟨nin (n := 31) hn (by omega), ?_⟩)
  intro s4 e4; subst e4
  rw [xI_xuA, x.2.2.1]
  intro s5 e5; subst e5
  refine bn_f (by decide) ?_
  exact l6_retext (n0 := tn0 t) (f0 := tf0 t) (n1 := tn1 t + 1) (f1 := upd (tf1 t) (tn1 t) b) h.1 (VT_tx hT hT.1 (by omega)) ((xk.rf.uA rfl).sI rfl) ⟨by rw [xI_xsI_ne (by decide)]; exact x.1, by rw [xA_xsI, xA_xuA_ne (by decide)]; exact x.2.1, by rw [xI_xsI_eq, nI_1]; rfl, by rw [xA_xsI, xA_xuA_eq]; exact frow x.2.2.2⟩ fun s' p k => by
    show Q (xI s' 2 1) s'
    rw [p.1.1.2.2.1]; exact hq s' p k
set_option maxHeartbeats 4000000 in
theorem m_type1 {t : Td} {b : Int32} {s : xSt} {Q : Int32 → xSt → Prop} (hT : VT t) (h : PM t s) (hb : ¬ b < 0) (hb2 : b ≤ 255) (hn : tn1 t < 31) (hq : ∀ s', PM (tx t (tn0 t) (tf0 t) (tn1 t + 1) (upd (tf1 t) (tn1 t) b)) s' → xk kS s s' → Q (nI (tn1 t + 1)) s') : d7_type 1 b s Q := by
  have x := h.1
  unfold d7_type d7_isText
  refine l7_in (fun z => absurd z (by decide)) fun _ _ => br_f (by decide) (l7_in (fun z => ?_) fun _ _ => ?_)
  · rcases z with z | z
    · exact absurd z hb
    · exact absurd z (Int32.not_lt.mpr hb2)
  refine bn_f (by decide) ?_
  rw [z1, x.2.2.1]
  refine ⟨v12, ?_⟩
  unfold jn
  refine bn_f (by decide) (bn_f (nne (b := 31) (by omega) (by omega) (by omega)) ⟨v12, ?_⟩)
  rw [show (31 : Int32) * 1 + nI (tn1 t) = nI (31 + tn1 t) from nI_add 31 _, ncl (by omega)]
  refine ⟨nin (n := 62) (by omega) (by omega), ?_⟩
  intro s14 e14; subst e14
  rw [xA_xuA_ne (by decide), x.2.2.1, nI_1]
  refine ⟨v12, v12, ?_⟩
  intro s17 e17; subst e17
  rw [xA_xuA_eq, upd_eq]
  refine ⟨v12, ?_⟩
  refine hq _ ⟨⟨?_, ?_, ?_, ?_⟩, h.2⟩ ((xk.rf.uA rfl).uA rfl)
  · rw [xA_xuA_eq, upd_ne (by decide), xA_xuA_ne (by decide)]; exact x.1
  · intro j hj
    have hj : j < tn0 t := hj
    have := hT.1
    rw [xA_xuA_ne (by decide), xA_xuA_eq, upd_ne (by omega)]; exact x.2.1 j hj
  · rw [xA_xuA_eq, upd_eq]; rfl
  · intro j hj
    have hj : j < tn1 t + 1 := hj
    rw [xA_xuA_ne (by decide), xA_xuA_eq]
    show _ = upd (tf1 t) (tn1 t) b j
    rw [upd_ap, upd_ap]
    by_cases q : j = tn1 t
    · rw [if_pos (by omega), if_pos q]
    · rw [if_neg (by omega), if_neg q]; exact x.2.2.2 j (by omega)
set_option maxHeartbeats 4000000 in
theorem c_cut1 {t : Td} {m : Nat} {a : Int32} {s : xSt} {Q : xSt → Prop} (hT : VT t) (h : PC t s) (hm : m ≤ tn1 t) (ha : a = nI m) (hq : ∀ s', PC (tx t (tn0 t) (tf0 t) (m) (tf1 t)) s' → xk kR s s' → Q s') : d5_cutTo 2 a s (fun s6 => d6_readTexts s6 (fun s7 => Q s7)) := by
  have x := h.1.1
  have hn := hT.2.1
  unfold d5_cutTo
  subst ha
  rw [x.2.2.1, cut hm (by omega)]
  intro s1 e1; subst e1
  exact l6_retext (n0 := tn0 t) (f0 := tf0 t) (n1 := m) (f1 := tf1 t) h.1 (VT_tx hT hT.1 (by omega)) (xk.rf.sI rfl) ⟨by rw [xI_xsI_ne (by decide)]; exact x.1, x.2.1, xI_xsI_eq _ _ _ _, fun j hj => x.2.2.2 j (Nat.lt_of_lt_of_le hj hm)⟩ hq
set_option maxHeartbeats 4000000 in
theorem c_wipe1 {t : Td} {s : xSt} {Q : Int32 → xSt → Prop} (hT : VT t) (h : PC t s) (hq : ∀ s', PC (tx t (tn0 t) (tf0 t) (0) (tf1 t)) s' → xk kR s s' → Q (nI (tn1 t)) s') : d6_wipe 1 s Q := by
  unfold d6_wipe d6_textOf d5_size
  refine bn_f (by decide) (bn_t rfl ⟨fun e => (by cases e), fun ob e hcl => ?_⟩)
  cases e
  rw [h.1.1.2.2.1]
  exact c_cut1 (m := 0) hT h (by omega) rfl hq
set_option maxHeartbeats 4000000 in
theorem c_undo1 {t : Td} {s : xSt} {Q : Int32 → xSt → Prop} (hT : VT t) (h : PC t s) (hn : 0 < tn1 t) (hq : ∀ s', PC (tx t (tn0 t) (tf0 t) (tn1 t - 1) (tf1 t)) s' → xk kR s s' → Q (nI (tn1 t - 1)) s') : d6_undo 1 s Q := by
  have hN := hT.2.1
  unfold d6_undo d6_textOf d5_size
  refine bn_f (by decide) (bn_t rfl ⟨fun e => (by cases e), fun ob e hcl => ?_⟩)
  cases e
  rw [h.1.1.2.2.1]
  refine bn_f (nne (b := 0) (by omega) (by omega) (by omega)) ?_
  refine c_cut1 (m := tn1 t - 1) hT h (by omega) (pk_sub (b := 1) (by omega)) fun s' p k => ?_
  rw [p.1.1.2.2.1]; exact hq s' p k
set_option maxHeartbeats 4000000 in
theorem m_cut1 {t : Td} {m : Nat} {s : xSt} {v : Int32} (hT : VT t) (h : PM t s) (hm : m ≤ tn1 t) (hv : v = nI m) : PM (tx t (tn0 t) (tf0 t) (m) (tf1 t)) (xuA s 13 0 1 v) ∧ xk kS s (xuA s 13 0 1 v) := by
  have x := h.1
  refine ⟨⟨⟨?_, ?_, ?_, ?_⟩, h.2⟩, xk.rf.uA rfl⟩
  · rw [xA_xuA_eq, upd_ne (by decide)]; exact x.1
  · exact x.2.1
  · rw [xA_xuA_eq, upd_eq]; exact hv
  · intro j hj
    exact x.2.2.2 j (Nat.lt_of_lt_of_le hj hm)
set_option maxHeartbeats 4000000 in
theorem m_wipe1 {t : Td} {s : xSt} {Q : Int32 → xSt → Prop} (hT : VT t) (h : PM t s) (hq : ∀ s', PM (tx t (tn0 t) (tf0 t) (0) (tf1 t)) s' → xk kS s s' → Q (nI (tn1 t)) s') : d7_wipe 1 s Q := by
  unfold d7_wipe d7_isText
  refine l7_in (fun z => absurd z (by decide)) fun _ _ => ?_
  refine bn_f (by decide) ?_
  rw [z1, h.1.2.2.1]
  refine ⟨v12, ?_⟩
  intro v5 e5; subst e5
  refine ⟨v12, ?_⟩
  intro s7 e7; subst e7
  have g := m_cut1 (m := 0) (v := 0) hT h (by omega) rfl
  exact hq _ g.1 g.2
set_option maxHeartbeats 4000000 in
theorem m_undo1 {t : Td} {s : xSt} {Q : Int32 → xSt → Prop} (hT : VT t) (h : PM t s) (hn : 0 < tn1 t) (hq : ∀ s', PM (tx t (tn0 t) (tf0 t) (tn1 t - 1) (tf1 t)) s' → xk kS s s' → Q (nI (tn1 t - 1)) s') : d7_undo 1 s Q := by
  have hN := hT.2.1
  unfold d7_undo d7_isText
  refine l7_in (fun z => absurd z (by decide)) fun _ _ => ?_
  refine bn_f (by decide) ?_
  rw [z1, h.1.2.2.1]
  refine ⟨v12, bn_f (nne (b := 0) (by omega) (by omega) (by omega)) ⟨v12, v12, ?_⟩⟩
  intro s8 e8; subst e8
  have g := m_cut1 (m := tn1 t - 1) (v := nI (tn1 t - 1)) hT h (by omega) rfl
  refine ⟨v12, ?_⟩
  rw [xA_xuA_eq, upd_eq, show nI (tn1 t) - (1 : Int32) = nI (tn1 t - 1) from pk_sub (b := 1) (by omega)]
  exact hq _ g.1 g.2
