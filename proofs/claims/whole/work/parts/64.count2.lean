set_option maxHeartbeats 4000000 in
theorem q_count {a : Int32} {σ : xSt} (h : RR σ) : d6_count a σ (fun r s1 => d7_count a s1 (fun r' s2 => r = r' ∧ RR s2)) := by
  obtain ⟨t, hT, hC, hM⟩ := h
  have hb := VB_bt hT
  by_cases a0 : a = 0
  · subst a0
    refine both (D6 := d6_count 0) (D7 := d7_count 0) (a := nI (t_m t)) hM hT (fun Q hq => br_t rfl (by rw [hC.1.2.1.1.1]; exact hq σ hC xk.rf)) fun s1 Q p hq => br_t rfl (l7_sumOf hT p fun s' p' k' => bn_t rfl (hq s' p' k'))
  by_cases a1 : a = 1
  · subst a1
    exact same (D6 := d6_count 1) (D7 := d7_count 1) hT hC hM (a := nI (tne t)) (fun Q q => br_f a0 (br_t rfl (by rw [hC.1.2.2.1.1]; exact q))) (fun Q q => br_f a0 (br_t rfl (by rw [hM.2.1.1]; exact q)))
  by_cases a2 : a = 2
  · subst a2
    refine same (D6 := d6_count 2) (D7 := d7_count 2) hT hC hM (a := nI (tn0 t)) (fun Q q => br_f a0 (br_f a1 (br_t rfl (by unfold d5_size; rw [hC.1.1.1]; exact q)))) (fun Q q => br_f a0 (br_f a1 (br_t rfl ?_)))
    rw [show (2 : Int32) - 2 = 0 by decide, z0, hM.1.1]
    exact ⟨v02, q⟩
  by_cases a3 : a = 3
  · subst a3
    refine same (D6 := d6_count 3) (D7 := d7_count 3) hT hC hM (a := nI (tn1 t)) (fun Q q => br_f a0 (br_f a1 (br_f a2 (br_t rfl (by unfold d5_size; rw [hC.1.1.2.2.1]; exact q))))) (fun Q q => br_f a0 (br_f a1 (br_f a2 (br_t rfl ?_))))
    rw [show (3 : Int32) - 2 = 1 by decide, z1, hM.1.2.2.1]
    exact ⟨v12, q⟩
  by_cases a4 : a = 4
  · subst a4
    refine both (D6 := d6_count 4) (D7 := d7_count 4) (a := sS (spF (bt t)) (t_m t)) hM hT (fun Q hq => br_f a0 (br_f a1 (br_f a2 (br_f a3 (br_t rfl (l6_chamberAsTold hT hC fun s' p n k => l2_speeches hb n (hq s' p (kA5_R k)))))))) fun s1 Q p hq => br_f a0 (br_f a1 (br_f a2 (br_f a3 (br_t rfl (l7_sumOf hT p fun s' p' k' => bn_f a0 (bn_t rfl (hq s' p' k')))))))
  by_cases a5 : a = 5
  · subst a5
    refine both (D6 := d6_count 5) (D7 := d7_count 5) (a := sS (ayF (bt t)) 20) hM hT (fun Q hq => br_f a0 (br_f a1 (br_f a2 (br_f a3 (br_f a4 (br_t rfl (l6_chamberAsTold hT hC fun s' p n k => l2_ayesAll n (hq s' p (kA5_R k))))))))) fun s1 Q p hq => br_f a0 (br_f a1 (br_f a2 (br_f a3 (br_f a4 (br_t rfl (l7_sumOf hT p fun s' p' k' => bn_f a0 (bn_f a4 (bn_t rfl (hq s' p' k')))))))))
  by_cases a6 : a = 6
  · subst a6
    refine both (D6 := d6_count 6) (D7 := d7_count 6) (a := nI (t_fg t)) hM hT (fun Q hq => br_f a0 (br_f a1 (br_f a2 (br_f a3 (br_f a4 (br_f a5 (br_t rfl (l6_faultOfStone hT hC.1.1 ?_)))))))) fun s1 Q p hq => br_f a0 (br_f a1 (br_f a2 (br_f a3 (br_f a4 (br_f a5 (br_t rfl (l7_sumOf hT p fun s' p' k' => bn_f a0 (bn_f a4 (bn_f a5 (hq s' p' k'))))))))))
    have q := hq σ hC xk.rf
    rcases ft0_c hT with ⟨c, d⟩ | ⟨c, d⟩
    · rw [d] at q
      refine bn_t c ?_
      unfold d5_size
      rw [hC.1.1.1]; exact q
    · rw [d] at q
      exact bn_f c q
  by_cases a7 : a = 7
  · subst a7
    exact same (D6 := d6_count 7) (D7 := d7_count 7) hT hC hM (a := nI (tns t)) (fun Q q => br_f a0 (br_f a1 (br_f a2 (br_f a3 (br_f a4 (br_f a5 (br_f a6 (br_t rfl (by rw [hC.1.2.2.2.1.1]; exact q))))))))) (fun Q q => br_f a0 (br_f a1 (br_f a2 (br_f a3 (br_f a4 (br_f a5 (br_f a6 (br_t rfl (by rw [hM.2.2.1.1]; exact q)))))))))
  by_cases a8 : a = 8
  · subst a8
    exact same (D6 := d6_count 8) (D7 := d7_count 8) hT hC hM (a := tfd t) (fun Q q => br_f a0 (br_f a1 (br_f a2 (br_f a3 (br_f a4 (br_f a5 (br_f a6 (br_f a7 (br_t rfl (by rw [hC.1.2.2.2.2.2]; exact q)))))))))) (fun Q q => br_f a0 (br_f a1 (br_f a2 (br_f a3 (br_f a4 (br_f a5 (br_f a6 (br_f a7 (br_t rfl (by rw [hM.2.2.2.2]; exact q))))))))))
  exact same (D6 := d6_count a) (D7 := d7_count a) hT hC hM (a := -2) (fun Q q => br_f a0 (br_f a1 (br_f a2 (br_f a3 (br_f a4 (br_f a5 (br_f a6 (br_f a7 (br_f a8 q))))))))) (fun Q q => br_f a0 (br_f a1 (br_f a2 (br_f a3 (br_f a4 (br_f a5 (br_f a6 (br_f a7 (br_f a8 q)))))))))
