-- seat
def b_p (b : Bl) (k p : Nat) : Bl := (b.1, b.2.1, b.2.2.1, fu b.2.2.2.1 k p, b.2.2.2.2.1, b.2.2.2.2.2)
set_option maxHeartbeats 4000000 in
theorem fu_fu (f : Nat → Nat) (k x y : Nat) : fu (fu f k x) k y = fu f k y := by
  funext j
  rw [fu_ap, fu_ap, fu_ap]
  split <;> rfl
set_option maxHeartbeats 4000000 in
theorem b_p_p (b : Bl) (k x y : Nat) : b_p (b_p b k x) k y = b_p b k y := by
  unfold b_p
  rw [fu_fu]
set_option maxHeartbeats 4000000 in
theorem VB_p {b : Bl} {k p : Nat} (h : VB b) (hp : p < 12) : VB (b_p b k p) := by
  refine ⟨h.1, h.2.1, h.2.2.1, fun j hj => ?_, h.2.2.2.2.1, h.2.2.2.2.2⟩
  show fu (bp b) k p j < 12
  rw [fu_ap]
  split
  · exact hp
  · exact h.2.2.2.1 j hj
set_option maxHeartbeats 4000000 in
theorem arow2 {f : Nat → Int32} {g : Nat → Nat} {n k p : Nat} {v : Int32} (h : ∀ j, j < n → f j = nI (g j)) (hv : v = nI p) : ∀ j, j < n → upd f k v j = nI (fu g k p j) := by
  intro j hj
  rw [upd_ap, fu_ap]
  split
  · exact hv
  · exact h j hj
set_option maxHeartbeats 4000000 in
theorem l1_hasO {o m j : Nat} {s : xSt} {Q : Int32 → xSt → Prop} (hm : m ≤ 8) (h : xI s o 4 = nI m) (hj : j < m) (hq : Q 1 s) : d1_hasMember o (nI j) s Q := by
  unfold d1_hasMember
  rw [h]
  exact br_f (nI_pos (by omega)) (br_f (nle hj (by omega)) (br_f (nle (a := 8) (by omega) (by omega)) hq))
set_option maxHeartbeats 4000000 in
theorem l1_setPlace {b : Bl} {k p : Nat} {s : xSt} {Q : xSt → Prop} (hb : VB b) (h : CL 4 b s) (hk : k < bm b) (hq : ∀ s', CL 4 (b_p b k p) s' → xk k4 s s' → Q s') : d1_setPlace 4 (nI k) (nI p) s Q := by
  have hm := hb.1
  unfold d1_setPlace
  refine l1_hasO hm h.1 hk (br_f (by decide) ⟨nin (by omega) (by omega), ?_⟩)
  rw [ncl (by omega)]
  intro s5 e5; subst e5
  obtain ⟨h1, h2, h3, h4, h5, h6⟩ := h
  exact hq _ ⟨h1, by rw [xA_xuA_ne (by decide)]; exact h2, by rw [xA_xuA_ne (by decide)]; exact h3, by rw [xA_xuA_eq]; exact arow2 h4 rfl, by rw [xA_xuA_ne (by decide)]; exact h5, h6.1, by rw [xA_xuA_ne (by decide), xA_xuA_ne (by decide), xA_xuA_ne (by decide)]; exact h6.2⟩ (xk.rf.uA rfl)
def seF (t : Td) (k p : Nat) : Nat := carN (b_p (bt t) k p) 20
set_option maxHeartbeats 4000000 in
theorem l6_findSeat {t : Td} {k : Nat} {s : xSt} {Q : xSt → Prop} (hT : VT t) (hC : PC t s) (hk : k < t_m t) (hq : ∀ s', BB (seF t k) 12 s' → xk kX s s' → Q s') : d6_findSeat (nI k) s Q := by
  have hb := VB_bt hT
  have ln := len_bt hT
  have hn := hT.2.2.1
  unfold d6_findSeat
  refine l0_start fun s1 g0 g1 k1 => l1_takeAll hT (hC.st8 k1).1 fun s2 c2 k2 => ?_
  refine lp0 (fun n i s3 => d6_findSeat_L20 (nI k) (fun s10 => Q s10) Q n (nI i) s3) (fun i s3 => BB (seF t k) i s3 ∧ (∃ b, CL 4 b s3 ∧ VB b ∧ (be b = be (bt t)) ∧ bm b = t_m t ∧ ∀ p, b_p b k p = b_p (bt t) k p) ∧ xk kX s s3) 12 (by omega) ?_ ?_ s2 ⟨⟨by rw [k2.1 8 0 rfl]; exact g0, by rw [k2.1 8 1 rfl]; exact g1⟩, ⟨bt t, c2, hb, rfl, rfl, fun _ => rfl⟩, (k8_X k1).tr (k4_X k2)⟩
  · intro n s3 ⟨h1, _, h2⟩
    rw [d6_findSeat_L20]
    exact br_t (Int32.le_refl _) (hq s3 h1 h2)
  · intro n i s3 hi ⟨h1, ⟨b, h3, h4, h5, h6, h7⟩, h2⟩ ih
    rw [d6_findSeat_L20]
    refine br_f (nle (a := 12) hi (by omega)) (l1_setPlace (p := i) h4 h3 (by rw [h6]; exact hk) fun s4 c4 k4' => ?_)
    have v4 := VB_p (k := k) h4 hi
    refine l2_trial v4 (by show (be b).length ≤ 9; rw [h5]; omega) c4 fun s5 n5 k5 => l2_carriedInAll v4 n5 ?_
    rw [h7 i]
    refine BB_offer (f := seF t k) ⟨by rw [k5.1 8 0 rfl, k4'.1 8 0 rfl]; exact h1.1, by rw [k5.1 8 1 rfl, k4'.1 8 1 rfl]; exact h1.2⟩ fun s8 b8 k8' => ?_
    intro v9 e9
    rw [nI_1] at e9
    subst e9
    exact ih s8 ⟨b8, ⟨b_p b k i, (c4.keep k5 (fun _ _ => rfl)).keep k8' (fun _ _ => rfl), v4, h5, h6, fun p => by rw [b_p_p, h7 p]⟩, ((h2.tr (k4_X k4')).tr (kw6_X k5)).tr (k8_X k8')⟩
set_option maxHeartbeats 4000000 in
theorem E7t.keep {t : Td} {s s1 : xSt} {kp : Nat → Nat → Nat → Bool} (h : E7t t s) (k : xk kp s s1) (h0 : kp 0 13 12 = true) (h1 : kp 1 13 13 = true) (h2 : kp 1 13 14 = true) (h3 : kp 1 13 15 = true) (h4 : kp 0 13 16 = true) : E7t t s1 := ⟨by rw [k.1 13 12 h0]; exact h.1, by rw [k.2.1 13 13 h1, k.2.1 13 14 h2, k.2.1 13 15 h3]; exact h.2.1, by rw [k.1 13 16 h4]; exact h.2.2⟩
set_option maxHeartbeats 4000000 in
theorem E7.of {b b' : Bl} {s : xSt} (h : E7 b s) (e : be b' = be b) : E7 b' s := by
  unfold E7 at h ⊢
  rw [e]; exact h
set_option maxHeartbeats 4000000 in
theorem l7_seatL {t : Td} {k : Nat} {a2 a3 : Int32} {s : xSt} {Q : Int32 → xSt → Prop} {K : Int32 → Int32 → xSt → Prop} (hT : VT t) (hk : k < t_m t) (hM : PM t s) (hB : B7 (bt t) s) (hE : E7t t s) (hq : ∀ s', PM t s' → xk kS s s' → K (bst (seF t k) 12).1 (bst (seF t k) 12).2 s') : d7_seatOf_L20 (nI k) a2 a3 K Q x_lim (-1) (-1) 0 s := by
  have hm := t_m_le hT
  refine lp0 (fun n i s2 => d7_seatOf_L20 (nI k) a2 a3 K Q n (bst (seF t k) i).1 (bst (seF t k) i).2 (nI i) s2) (fun i s2 => PM t s2 ∧ (∃ b, B7 b s2 ∧ VB b ∧ (be b = be (bt t)) ∧ ∀ p, b_p b k p = b_p (bt t) k p) ∧ E7t t s2 ∧ xk kS s s2) 12 (by omega) ?_ ?_ s ⟨hM, ⟨bt t, hB, VB_bt hT, rfl, fun _ => rfl⟩, hE, xk.rf⟩
  · intro n s2 ⟨h1, _, _, h4⟩
    rw [d7_seatOf_L20]
    exact br_t (Int32.le_refl _) (hq s2 h1 h4)
  · intro n i s2 hi ⟨h1, ⟨b, h2, h5, h6, h7⟩, h3, h4⟩ ih
    rw [d7_seatOf_L20, ncl (a := k) (by omega)]
    refine br_f (nle (a := 12) hi (by omega)) ⟨nin (by omega) (by omega), ?_⟩
    intro s6 e6
    have k6 : xk kT7 s2 s6 := by subst e6; exact xk.rf.uA rfl
    have b6 : B7 (b_p b k i) s6 := by
      obtain ⟨g1, g2, g3, g4, g5⟩ := h2
      subst e6
      exact ⟨g1, by rw [xA_xuA_ne (by decide)]; exact g2, by rw [xA_xuA_ne (by decide)]; exact g3, by rw [xA_xuA_eq]; exact arow2 g4 rfl, by rw [xA_xuA_ne (by decide)]; exact g5⟩
    have t6 : E7t t s6 := by
      subst e6
      exact ⟨h3.1, by rw [xA_xuA_ne (by decide), xA_xuA_ne (by decide), xA_xuA_ne (by decide)]; exact h3.2.1, h3.2.2⟩
    clear e6
    have p6 : PM t s6 := h1.keep k6 (fun a c q => by
      simp only [kM, kT7, Bool.not_eq_true', Bool.and_eq_false_iff, Bool.or_eq_false_iff, beq_eq_false_iff_ne, decide_eq_false_iff_not, Bool.or_eq_true, Bool.and_eq_true, beq_iff_eq, decide_eq_true_eq] at q ⊢
      omega)
    have v6 := VB_p (k := k) h5 hi
    refine l7_runs v6 b6 ((t6.e7 hT).of h6) fun s3 n3 k3 => l7_carriedNow v6 n3 ?_
    rw [h7 i]
    have c := cand (f := seF t k) (i := i) (K := fun x y => ∀ v : Int32, v = nI i + 1 → d7_seatOf_L20 (nI k) a2 a3 K Q n x y v s3) (fun v e => by
      rw [nI_1] at e; subst e
      exact ih s3 ⟨p6.st7 k3, ⟨b_p b k i, b6.keep k3 rfl rfl rfl rfl rfl, v6, h6, fun p => by rw [b_p_p, h7 p]⟩, t6.keep k3 rfl rfl rfl rfl rfl, (h4.tr (kT7_S k6)).tr (kr7_S k3)⟩)
    show jn _ _
    rw [show carN (b_p (bt t) k i) 20 = seF t k i from rfl]
    unfold jn
    by_cases q : nI (seF t k i) ≤ (bst (seF t k) i).2
    · exact br_t q (br_t q (c.1 q))
    · exact br_f q (br_f q (c.2 q))
set_option maxHeartbeats 4000000 in
theorem q_seat {a w : Int32} {σ : xSt} (h : RR σ) : d6_seat a w σ (fun r s1 => d7_seat a w s1 (fun r' s2 => r = r' ∧ RR s2)) := by
  obtain ⟨t, hT, hC, hM⟩ := h
  have hm := t_m_le hT
  have x := hC.1.2.1.1.1
  by_cases c : ∃ j, j < t_m t ∧ a = nI j
  rotate_left
  · refine both (D6 := d6_seat a w) (D7 := d7_seat a w) (a := -2) hM hT (fun Q hq => l1_hasB x c (br_t rfl (hq σ hC xk.rf))) fun s1 Q p hq => ?_
    exact l7_isMemberB hT p c fun s' p' k => br_t rfl (hq s' p' k)
  obtain ⟨j, hj, e⟩ := c
  subst e
  by_cases d : ∃ i, i < 2 ∧ w = nI i
  rotate_left
  · refine both (D6 := d6_seat (nI j) w) (D7 := d7_seat (nI j) w) (a := -2) hM hT (fun Q hq => l1_hasG hT x hj (br_f (by decide) ?_)) fun s1 Q p hq => ?_
    · have q := hq σ hC xk.rf
      exact ⟨fun _ => q, fun z => br_f (w_lt0 (n := 1) d (by omega) z) q⟩
    · exact l7_isMemberG hT p hj fun s' b p' k => br_f (by decide) (l7_inB (n := 1) (by omega) rfl d (br_t rfl (hq s' p' k)))
  obtain ⟨i, hi, e⟩ := d
  subst e
  have e0 : nI i = 0 ↔ i = 0 := nI_eq (b := 0) (by omega) (by omega)
  refine both (D6 := d6_seat (nI j) (nI i)) (D7 := d7_seat (nI j) (nI i)) (a := if i = 0 then (bst (seF t j) 12).1 else (bst (seF t j) 12).2) hM hT (fun Q hq => ?_) fun s1 Q p hq => ?_
  · refine l1_hasG hT x hj (br_f (by decide) (br_f (nI_pos (by omega)) (br_t (nI_le (b := 1) (by omega) (by omega)) (l6_findSeat hT hC hj fun s' b k => ?_))))
    have q := hq s' (hC.stX k) (kX_R k)
    rw [e0, b.1, b.2]
    refine ⟨fun a => ?_, fun a => ?_⟩
    · rw [if_neg a] at q; exact q
    · rw [if_pos a] at q; exact q
  · refine l7_isMemberG hT p hj fun s3 b3 p3 k3 => br_f (by decide) (l7_inG (n := 1) (by omega) rfl hi (br_f (by decide) ?_))
    unfold d7_seatOf
    refine l7_asTold hT p3 fun s2 b2 e2 _ p2 k2 => ⟨nin (by omega) (by omega), ?_⟩
    intro v3 _
    refine l7_seatL hT hj p2 b2 e2 fun s' p' k' => ⟨nin (by omega) (by omega), ?_⟩
    intro s21 e21
    have k21 : xk kT7 s' s21 := by subst e21; exact xk.rf.uA rfl
    have p21 : PM t s21 := p'.keep k21 (fun a c q => by
      simp only [kM, kT7, Bool.not_eq_true', Bool.and_eq_false_iff, Bool.or_eq_false_iff, beq_eq_false_iff_ne, decide_eq_false_iff_not, Bool.or_eq_true, Bool.and_eq_true, beq_iff_eq, decide_eq_true_eq] at q ⊢
      omega)
    have q := hq s21 p21 (((k3.tr (kT7_S k2)).tr k').tr (kT7_S k21))
    rw [e0]
    refine ⟨fun a => ?_, fun a => ?_⟩
    · rw [if_neg a] at q; exact q
    · rw [if_pos a] at q; exact q
