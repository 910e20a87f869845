-- never
def nvF (t : Td) (e : Nat) : Bool := sa (b_w t (2 ^ e)) t (tns t)
set_option maxHeartbeats 4000000 in
theorem len_w {t : Td} {m : Nat} (hT : VT t) : (be (b_w t m)).length ≤ 9 := Nat.le_trans (kl_le _ _ _) (Nat.le_trans hT.2.2.1 (by omega))
set_option maxHeartbeats 4000000 in
theorem q_never {σ : xSt} (h : RR σ) : d6_never σ (fun r s1 => d7_never s1 (fun r' s2 => r = r' ∧ RR s2)) := by
  obtain ⟨t, hT, hC, hM⟩ := h
  have hn := hT.2.2.1
  refine both (D6 := d6_never) (D7 := d7_never) (a := bits (nvF t) (tne t)) hM hT (fun Q hq => ?_) fun s1 Q p hq => ?_
  · unfold d6_never
    refine l1_takeAll hT hC.1 fun s1 c1 k1 => ?_
    refine lp0 (fun n i s2 => d6_never_L15 (fun v14 s13 => Q v14 s13) Q n (bits (nvF t) i) (nI i) s2) (fun i s2 => (∃ b, CL 4 b s2 ∧ ∀ L, sB b L = sB (bt t) L) ∧ xk kX σ s2) (tne t) (by omega) ?_ ?_ s1 ⟨⟨bt t, c1, fun _ => rfl⟩, k4_X k1⟩
    · intro n s2 ⟨_, h2⟩
      rw [d6_never_L15, h2.1 3 8 rfl, hC.1.2.2.1.1]
      exact br_t (Int32.le_refl _) (hq s2 (hC.stX h2) (kX_R h2))
    · intro n i s2 hi ⟨⟨b, h1, hb⟩, h2⟩ ih
      have m1 := mk1 i (by omega)
      rw [d6_never_L15, h2.1 3 8 rfl, hC.1.2.2.1.1, m1.1]
      refine br_f (nle hi (by omega)) (l1_takeNot (m := 2 ^ i) hT m1.2 (hC.stX h2).1 h1 hb fun s3 c3 k3 => ?_)
      refine l2_trial (VB_w hT) (len_w hT) c3 fun s4 n4 k4 => ?_
      have x4 := (h2.tr (k4_X k3)).tr (kw6_X k4)
      refine l4_comeOutSo hT (hC.stX x4).1 (VB_w hT) n4 ?_
      unfold jn
      rw [← m1.1]
      exact bits_jn (f := nvF t) (i := i) (P := fun v => ∀ v11 : Int32, v11 = nI i + 1 → d6_never_L15 (fun v14 s13 => Q v14 s13) Q n v v11 s4) (fun v e => by
        rw [nI_1] at e; subst e
        exact ih s4 ⟨⟨b_w t (2 ^ i), c3.keep k4 (fun _ _ => rfl), fun _ => rfl⟩, x4⟩)
  · unfold d7_never d7_neverNow
    refine l7_asTold hT p fun s2 b2 e2 _ p2 k2 => ?_
    refine lp0 (fun n i s3 => d7_neverNow_L8 (fun v13 s12 => Q v13 s12) Q n (bits (nvF t) i) (nI i) s3) (fun i s3 => PM t s3 ∧ B7 (bt t) s3 ∧ (xI s3 13 12 = nI (tne t) ∧ xA s3 13 13 = xA s2 13 13 ∧ xA s3 13 14 = xA s2 13 14 ∧ xA s3 13 15 = xA s2 13 15) ∧ xk kS s1 s3) (tne t) (by omega) ?_ ?_ s2 ⟨p2, b2, ⟨e2.1, rfl, rfl, rfl⟩, kT7_S k2⟩
    · intro n s3 ⟨h1, _, _, h4⟩
      rw [d7_neverNow_L8, h1.2.1.1]
      exact br_t (Int32.le_refl _) (hq s3 h1 h4)
    · intro n i s3 hi ⟨h1, h2, h3, h4⟩ ih
      have m1 := mk1 i (by omega)
      rw [d7_neverNow_L8, h1.2.1.1, m1.1]
      refine br_f (nle hi (by omega)) ?_
      intro s4 e4
      have k4 : xk kE7 s3 s4 := by subst e4; exact xk.rf.sI rfl
      have p4 : PM t s4 := h1.keep k4 (fun a c q => by
        simp only [kM, kE7, Bool.not_eq_true', Bool.and_eq_false_iff, Bool.or_eq_false_iff, beq_eq_false_iff_ne, decide_eq_false_iff_not, Bool.or_eq_true, Bool.and_eq_true, beq_iff_eq, decide_eq_true_eq] at q ⊢
        omega)
      have b4 : B7 (b_w t (2 ^ i)) s4 := h2.keep k4 rfl rfl rfl rfl rfl
      have e7 : E7 (b_w t (2 ^ i)) s4 := by
        refine ⟨tne t, tg t, fun j => (2 ^ i).testBit j, by omega, by subst e4; rw [xI_xsI_ne (by decide)]; exact h3.1, ?_, fun e he => ?_, rfl, hT.2.2.2.1⟩
        · subst e4
          rw [xA_xsI, h3.2.1, h3.2.2.1, h3.2.2.2]; exact e2.2.1
        · rw [show xI s4 13 16 = nI (2 ^ i) by subst e4; exact xI_xsI_eq _ _ _ _, bit_at (2 ^ i) m1.2 e (by omega)]
          show _ ↔ (2 ^ i).testBit e = true
          cases (2 ^ i).testBit e
          · exact ⟨fun q => absurd q (by decide), fun q => by cases q⟩
          · exact ⟨fun _ => rfl, fun _ => rfl⟩
      refine l7_isSeen hT p4 (VB_w hT) b4 e7 fun s5 n5 p5 k5 => ?_
      unfold jn
      rw [← m1.1]
      exact bits_jn (f := nvF t) (i := i) (P := fun v => ∀ v11 : Int32, v11 = nI i + 1 → d7_neverNow_L8 (fun v13 s12 => Q v13 s12) Q n v v11 s5) (fun v e => by
        rw [nI_1] at e; subst e
        refine ih s5 ⟨p5, (h2.keep k4 rfl rfl rfl rfl rfl).keep k5 rfl rfl rfl rfl rfl, ⟨?_, ?_, ?_, ?_⟩, (h4.tr (kT7_S (kE7_T k4))).tr (kr7_S k5)⟩
        · rw [k5.1 13 12 rfl]; subst e4; rw [xI_xsI_ne (by decide)]; exact h3.1
        · rw [k5.2.1 13 13 rfl]; subst e4; exact h3.2.1
        · rw [k5.2.1 13 14 rfl]; subst e4; exact h3.2.2.1
        · rw [k5.2.1 13 15 rfl]; subst e4; exact h3.2.2.2)
