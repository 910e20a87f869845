-- sort
def b_so (b : Bl) (k v : Nat) : Bl := (b.1, fu b.2.1 k v, b.2.2.1, b.2.2.2.1, b.2.2.2.2.1, b.2.2.2.2.2)
set_option maxHeartbeats 4000000 in
theorem b_so_so (b : Bl) (k x y : Nat) : b_so (b_so b k x) k y = b_so b k y := by
  unfold b_so
  rw [fu_fu]
set_option maxHeartbeats 4000000 in
theorem VB_so {b : Bl} {k v : Nat} (h : VB b) (hv : v ≤ 2) : VB (b_so b k v) := by
  refine ⟨h.1, fun j hj => ?_, h.2.2.1, h.2.2.2.1, h.2.2.2.2.1, h.2.2.2.2.2⟩
  show fu (bs b) k v j ≤ 2
  rw [fu_ap]
  split
  · exact hv
  · exact h.2.1 j hj
set_option maxHeartbeats 4000000 in
theorem l1_setSort {b : Bl} {k v : Nat} {s : xSt} {Q : xSt → Prop} (hb : VB b) (h : CL 4 b s) (hk : k < bm b) (hq : ∀ s', CL 4 (b_so b k v) s' → xk k4 s s' → Q s') : d1_setSort 4 (nI k) (nI v) s Q := by
  have hm := hb.1
  unfold d1_setSort
  refine l1_hasO hm h.1 hk (br_f (by decide) ⟨nin (by omega) (by omega), ?_⟩)
  rw [ncl (by omega)]
  intro s5 e5; subst e5
  obtain ⟨h1, h2, h3, h4, h5, h6⟩ := h
  exact hq _ ⟨h1, by rw [xA_xuA_eq]; exact arow2 h2 rfl, by rw [xA_xuA_ne (by decide)]; exact h3, by rw [xA_xuA_ne (by decide)]; exact h4, by rw [xA_xuA_ne (by decide)]; exact h5, h6.1, by rw [xA_xuA_ne (by decide), xA_xuA_ne (by decide), xA_xuA_ne (by decide)]; exact h6.2⟩ (xk.rf.uA rfl)
def soF (t : Td) (k v : Nat) : Bool := sa (b_so (bt t) k v) t (tns t)
set_option maxHeartbeats 4000000 in
theorem l6_sorts {t : Td} {k : Nat} {s : xSt} {Q : Int32 → xSt → Prop} (hT : VT t) (hC : PC t s) (hk : k < t_m t) (hq : ∀ s', xk kX s s' → Q (bits (soF t k) 3) s') : d6_sortsThatFit (nI k) s Q := by
  have hb := VB_bt hT
  have ln := len_bt hT
  have hn := hT.2.2.1
  unfold d6_sortsThatFit
  refine l1_takeAll hT hC.1 fun s2 c2 k2 => ?_
  refine lp0 (fun n i s3 => d6_sortsThatFit_L15 (nI k) (fun v14 s13 => Q v14 s13) Q n (bits (soF t k) i) (nI i) s3) (fun i s3 => (∃ b, CL 4 b s3 ∧ VB b ∧ (be b = be (bt t)) ∧ bm b = t_m t ∧ ∀ p, b_so b k p = b_so (bt t) k p) ∧ xk kX s s3) 3 (by omega) ?_ ?_ s2 ⟨⟨bt t, c2, hb, rfl, rfl, fun _ => rfl⟩, k4_X k2⟩
  · intro n s3 ⟨_, h2⟩
    rw [d6_sortsThatFit_L15]
    exact br_t (Int32.le_refl _) (hq s3 h2)
  · intro n i s3 hi ⟨⟨b, h3, h4, h5, h6, h7⟩, h2⟩ ih
    rw [d6_sortsThatFit_L15]
    refine br_f (nle (a := 3) hi (by omega)) (l1_setSort (v := i) h4 h3 (by rw [h6]; exact hk) fun s4 c4 k4' => ?_)
    have v4 := VB_so (k := k) (v := i) h4 (by omega)
    refine l2_trial v4 (by show (be b).length ≤ 9; rw [h5]; omega) c4 fun s5 n5 k5 => ?_
    have x5 := (h2.tr (k4_X k4')).tr (kw6_X k5)
    refine l4_comeOutSo hT (hC.stX x5).1 v4 n5 ?_
    rw [h7 i]
    unfold jn
    exact bits_jn (f := soF t k) (i := i) (P := fun v => ∀ v11 : Int32, v11 = nI i + 1 → d6_sortsThatFit_L15 (nI k) (fun v14 s13 => Q v14 s13) Q n v v11 s5) (fun v e => by
      rw [nI_1] at e; subst e
      exact ih s5 ⟨⟨b_so b k i, c4.keep k5 (fun _ _ => rfl), v4, h5, h6, fun p => by rw [b_so_so, h7 p]⟩, x5⟩)
set_option maxHeartbeats 4000000 in
theorem l7_sortsL {t : Td} {k : Nat} {a2 : Int32} {s : xSt} {Q K : Int32 → xSt → Prop} (hT : VT t) (hk : k < t_m t) (hM : PM t s) (hB : B7 (bt t) s) (hE : E7t t s) (hq : ∀ s', PM t s' → xk kS s s' → K (bits (soF t k) 3) s') : d7_sortsBy_L16 (nI k) a2 K Q x_lim 0 0 s := by
  have hm := t_m_le hT
  refine lp0 (fun n i s2 => d7_sortsBy_L16 (nI k) a2 K Q n (bits (soF t k) i) (nI i) s2) (fun i s2 => PM t s2 ∧ (∃ b, B7 b s2 ∧ VB b ∧ (be b = be (bt t)) ∧ ∀ p, b_so b k p = b_so (bt t) k p) ∧ E7t t s2 ∧ xk kS s s2) 3 (by omega) ?_ ?_ s ⟨hM, ⟨bt t, hB, VB_bt hT, rfl, fun _ => rfl⟩, hE, xk.rf⟩
  · intro n s2 ⟨h1, _, _, h4⟩
    rw [d7_sortsBy_L16]
    exact br_t (Int32.le_refl _) (hq s2 h1 h4)
  · intro n i s2 hi ⟨h1, ⟨b, h2, h5, h6, h7⟩, h3, h4⟩ ih
    rw [d7_sortsBy_L16, ncl (a := k) (by omega)]
    refine br_f (nle (a := 3) hi (by omega)) ⟨nin (by omega) (by omega), ?_⟩
    intro s6 e6
    have k6 : xk kT7 s2 s6 := by subst e6; exact xk.rf.uA rfl
    have b6 : B7 (b_so b k i) s6 := by
      obtain ⟨g1, g2, g3, g4, g5⟩ := h2
      subst e6
      exact ⟨g1, by rw [xA_xuA_eq]; exact arow2 g2 rfl, by rw [xA_xuA_ne (by decide)]; exact g3, by rw [xA_xuA_ne (by decide)]; exact g4, by rw [xA_xuA_ne (by decide)]; exact g5⟩
    have t6 : E7t t s6 := by
      subst e6
      exact ⟨h3.1, by rw [xA_xuA_ne (by decide), xA_xuA_ne (by decide), xA_xuA_ne (by decide)]; exact h3.2.1, h3.2.2⟩
    clear e6
    have p6 : PM t s6 := h1.keep k6 (fun a c q => by
      simp only [kM, kT7, Bool.not_eq_true', Bool.and_eq_false_iff, Bool.or_eq_false_iff, beq_eq_false_iff_ne, decide_eq_false_iff_not, Bool.or_eq_true, Bool.and_eq_true, beq_iff_eq, decide_eq_true_eq] at q ⊢
      omega)
    have v6 := VB_so (k := k) (v := i) h5 (by omega)
    refine l7_isSeen hT p6 v6 b6 ((t6.e7 hT).of h6) fun s3 n3 p3 k3 => ?_
    rw [h7 i]
    unfold jn
    exact bits_jn (f := soF t k) (i := i) (P := fun v => ∀ v11 : Int32, v11 = nI i + 1 → d7_sortsBy_L16 (nI k) a2 K Q n v v11 s3) (fun v e => by
      rw [nI_1] at e; subst e
      exact ih s3 ⟨p3, ⟨b_so b k i, b6.keep k3 rfl rfl rfl rfl rfl, v6, h6, fun p => by rw [b_so_so, h7 p]⟩, t6.keep k3 rfl rfl rfl rfl rfl, (h4.tr (kT7_S k6)).tr (kr7_S k3)⟩)
set_option maxHeartbeats 4000000 in
theorem PM.stT {t : Td} {s s1 : xSt} (h : PM t s) (k : xk kT7 s s1) : PM t s1 := h.keep k (fun a c q => by
  simp only [kM, kT7, Bool.not_eq_true', Bool.and_eq_false_iff, Bool.or_eq_false_iff, beq_eq_false_iff_ne, decide_eq_false_iff_not, Bool.or_eq_true, Bool.and_eq_true, beq_iff_eq, decide_eq_true_eq] at q ⊢
  omega)
set_option maxHeartbeats 4000000 in
theorem q_sort {a : Int32} {σ : xSt} (h : RR σ) : d6_sort a σ (fun r s1 => d7_sort a s1 (fun r' s2 => r = r' ∧ RR s2)) := by
  obtain ⟨t, hT, hC, hM⟩ := h
  have hm := t_m_le hT
  have x := hC.1.2.1.1.1
  by_cases c : ∃ j, j < t_m t ∧ a = nI j
  rotate_left
  · refine both (D6 := d6_sort a) (D7 := d7_sort a) (a := -2) hM hT (fun Q hq => l1_hasB x c (br_t rfl (hq σ hC xk.rf))) fun s1 Q p hq => ?_
    exact l7_isMemberB hT p c fun s' p' k => br_t rfl (hq s' p' k)
  obtain ⟨j, hj, e⟩ := c
  subst e
  refine both (D6 := d6_sort (nI j)) (D7 := d7_sort (nI j)) (a := bits (soF t j) 3) hM hT (fun Q hq => ?_) fun s1 Q p hq => ?_
  · exact l1_hasG hT x hj (br_f (by decide) (l6_sorts hT hC hj fun s' k => hq s' (hC.stX k) (kX_R k)))
  · refine l7_isMemberG hT p hj fun s3 b3 p3 k3 => br_f (by decide) ?_
    unfold d7_sortsBy
    refine l7_asTold hT p3 fun s2 b2 e2 _ p2 k2 => ⟨nin (by omega) (by omega), ?_⟩
    intro v3 _
    refine l7_sortsL hT hj p2 b2 e2 fun s' p' k' => ⟨nin (by omega) (by omega), ?_⟩
    intro s18 e18
    have k18 : xk kT7 s' s18 := by subst e18; exact xk.rf.uA rfl
    exact hq s18 (p'.stT k18) (((k3.tr (kT7_S k2)).tr k').tr (kT7_S k18))
