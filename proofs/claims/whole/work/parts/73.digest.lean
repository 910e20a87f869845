-- digest
set_option maxHeartbeats 4000000 in
theorem m_cntL {t : Td} {h : Int64} {s : xSt} {K Q : Int64 → xSt → Prop} (hT : VT t) (p : PM t s) (hq : ∀ s', PM t s' → xk kS s s' → K (it (fun i h => st h (cnF t i)) 8 h) s') : d7_digest_L6 K Q x_lim h 0 s := by
  refine lp0 (fun n i s2 => d7_digest_L6 K Q n (it (fun i h => st h (cnF t i)) i h) (nI i) s2) (fun i s2 => PM t s2 ∧ xk kS s s2) 8 (by omega) ?_ ?_ s ⟨p, xk.rf⟩
  · intro n s2 ⟨h1, h2⟩
    rw [d7_digest_L6]
    exact br_t (Int32.le_refl _) (hq s2 h1 h2)
  · intro n i s2 hi ⟨h1, h2⟩ ih
    rw [d7_digest_L6]
    refine br_f (nle (a := 8) hi (by omega)) (m_count hT h1 hi fun s3 p3 k3 => ?_)
    intro v5 e5 v6 e6
    rw [nI_1] at e6
    subst e5 e6
    exact ih s3 ⟨p3, h2.tr k3⟩
set_option maxHeartbeats 4000000 in
theorem m_plcL {t : Td} {h : Int64} {s : xSt} {K Q : Int64 → xSt → Prop} (hT : VT t) (p : PM t s) (b : B7 (bt t) s) (hq : ∀ s', PM t s' → B7 (bt t) s' → xk kS s s' → K (it (plD t) 12 h) s') : d7_digest_L59 K Q x_lim h 0 s := by
  refine lp0 (fun n i s2 => d7_digest_L59 K Q n (it (plD t) i h) (nI i) s2) (fun i s2 => PM t s2 ∧ B7 (bt t) s2 ∧ xk kS s s2) 12 (by omega) ?_ ?_ s ⟨p, b, xk.rf⟩
  · intro n s2 ⟨h1, h2, h3⟩
    rw [d7_digest_L59]
    exact br_t (Int32.le_refl _) (hq s2 h1 h2 h3)
  · intro n i s2 hi ⟨h1, h2, h3⟩ ih
    rw [d7_digest_L59]
    refine br_f (nle (a := 12) hi (by omega)) (m_placeD hT h1 hi fun s3 p3 b3 k3 => ?_)
    intro v6 e6
    rw [nI_1] at e6
    subst e6
    exact ih s3 ⟨p3, b3, h3.tr k3⟩
set_option maxHeartbeats 4000000 in
theorem m_memL {t : Td} {h : Int64} {s : xSt} {K Q : Int64 → xSt → Prop} (hT : VT t) (p : PM t s) (b : B7 (bt t) s) (hq : ∀ s', PM t s' → xk kS s s' → K (it (meD t) (t_m t) h) s') : d7_digest_L80 K Q x_lim h 0 s := by
  have hm := t_m_le hT
  refine lp0 (fun n i s2 => d7_digest_L80 K Q n (it (meD t) i h) (nI i) s2) (fun i s2 => PM t s2 ∧ B7 (bt t) s2 ∧ xk kS s s2) (t_m t) (by omega) ?_ ?_ s ⟨p, b, xk.rf⟩
  · intro n s2 ⟨h1, h2, h3⟩
    rw [d7_digest_L80, h2.1]
    exact br_t (Int32.le_refl _) (hq s2 h1 h3)
  · intro n i s2 hi ⟨h1, h2, h3⟩ ih
    rw [d7_digest_L80, h2.1, bt_m]
    refine br_f (nle hi (by omega)) (m_memberD hT h1 h2 hi fun s3 p3 b3 k3 => ?_)
    intro v6 e6
    rw [nI_1] at e6
    subst e6
    exact ih s3 ⟨p3, b3, h3.tr k3⟩
set_option maxHeartbeats 4000000 in
theorem m_hoL {t : Td} {j : Nat} {h : Int64} {s : xSt} {K Q : Int64 → xSt → Prop} (hT : VT t) (p : PM t s) (hj : j < 20) (hq : ∀ s', PM t s' → xk kS s s' → K (hoD t j h) s') : d7_digest_L112 (nI j) K Q x_lim h 0 s := by
  refine lp0 (fun n i s2 => d7_digest_L112 (nI j) K Q n (it (fun i h => st h (hoF t j i)) i h) (nI i) s2) (fun i s2 => PM t s2 ∧ xk kS s s2) 3 (by omega) ?_ ?_ s ⟨p, xk.rf⟩
  · intro n s2 ⟨h1, h2⟩
    rw [d7_digest_L112]
    exact br_t (Int32.le_refl _) (hq s2 h1 h2)
  · intro n i s2 hi ⟨h1, h2⟩ ih
    rw [d7_digest_L112]
    refine br_f (nle (a := 3) hi (by omega)) (m_houseOf hT h1 hj hi fun s3 p3 k3 => ?_)
    intro v5 e5 v6 e6
    rw [nI_1] at e6
    subst e5 e6
    exact ih s3 ⟨p3, h2.tr k3⟩
set_option maxHeartbeats 4000000 in
theorem m_houL {t : Td} {h : Int64} {s : xSt} {K Q : Int64 → xSt → Prop} (hT : VT t) (p : PM t s) (hq : ∀ s', PM t s' → xk kS s s' → K (it (hoD t) 20 h) s') : d7_digest_L103 K Q x_lim h 0 s := by
  refine lp0 (fun n i s2 => d7_digest_L103 K Q n (it (hoD t) i h) (nI i) s2) (fun i s2 => PM t s2 ∧ xk kS s s2) 20 (by omega) ?_ ?_ s ⟨p, xk.rf⟩
  · intro n s2 ⟨h1, h2⟩
    rw [d7_digest_L103]
    exact br_t (Int32.le_refl _) (hq s2 h1 h2)
  · intro n i s2 hi ⟨h1, h2⟩ ih
    rw [d7_digest_L103]
    refine br_f (nle (a := 20) hi (by omega)) (m_hoL hT h1 hi fun s3 p3 k3 => ?_)
    intro v6 e6
    rw [nI_1] at e6
    subst e6
    exact ih s3 ⟨p3, h2.tr k3⟩
set_option maxHeartbeats 4000000 in
theorem m_croL {t : Td} {h : Int64} {s : xSt} {K Q : Int64 → xSt → Prop} (hT : VT t) (p : PM t s) (hq : ∀ s', PM t s' → xk kS s s' → K (it (fun i h => st h (crF t i)) 3 h) s') : d7_digest_L171 K Q x_lim h 0 s := by
  refine lp0 (fun n i s2 => d7_digest_L171 K Q n (it (fun i h => st h (crF t i)) i h) (nI i) s2) (fun i s2 => PM t s2 ∧ xk kS s s2) 3 (by omega) ?_ ?_ s ⟨p, xk.rf⟩
  · intro n s2 ⟨h1, h2⟩
    rw [d7_digest_L171]
    exact br_t (Int32.le_refl _) (hq s2 h1 h2)
  · intro n i s2 hi ⟨h1, h2⟩ ih
    rw [d7_digest_L171]
    refine br_f (nle (a := 3) hi (by omega)) (m_crowdOf hT h1 hi fun s3 p3 k3 => ?_)
    intro v5 e5 v6 e6
    rw [nI_1] at e6
    subst e5 e6
    exact ih s3 ⟨p3, h2.tr k3⟩
set_option maxHeartbeats 4000000 in
theorem m_digest {t : Td} {z x y w : Nat → Int32} {g : Nat → Ev} {s : xSt} {Q : Int64 → xSt → Prop} (hA : AG z x y w g) (hz : z 0 = 7) (hT : VT t) (p : PM t s) (hq : ∀ s', PM t s' → xk kS s s' → Q (diD t g) s') : d7_digest s Q := by
  unfold d7_digest
  intro v1 e1
  subst e1
  refine m_cntL hT p fun s1 p1 k1 => ?_
  refine l7_faultOf hT p1.1 fun s2 b2 _ k2 => bn_t rfl ?_
  intro v11 e11
  have p2 := p1.str k2
  refine l7_faultOf hT p2.1 fun s3 b3 _ k3 => bn_f (by decide) ?_
  intro v14 e14
  have p3 := p2.str k3
  refine m_plcL hT p3 b3 fun s4 p4 b4 k4 => m_memL hT p4 b4 fun s5 p5 k5 => m_houL hT p5 fun s6 p6 k6 => ?_
  unfold d7_governmentsOf
  refine l7_runsTold hT p6 fun s7 n7 _ p7 k7 => l7_governmentsNow (VB_bt hT) n7 ?_
  intro v40 e40
  unfold d7_carriedOf
  refine l7_runsTold hT p7 fun s8 n8 _ p8 k8 => l7_carriedNow (VB_bt hT) n8 ?_
  intro v43 e43
  refine m_croL hT p8 fun s9 p9 k9 => m_oratorOf hT p9 fun s10 p10 k10 => ?_
  intro v53 e53
  refine m_stillOf hT p10 fun s11 p11 k11 => ?_
  intro v56 e56
  refine m_dustOf (j := 8) (i := 0) hT p11 (by omega) (by omega) fun s12 p12 k12 => ?_
  intro v59 e59
  refine m_dustOf (j := 8) (i := 1) hT p12 (by omega) (by omega) fun s13 p13 k13 => ?_
  intro v62 e62
  refine m_boyOf (i := 0) hT p13 (by omega) fun s14 p14 k14 => ?_
  intro v65 e65
  refine m_boyOf (i := 1) hT p14 (by omega) fun s15 p15 k15 => ?_
  intro v68 e68
  refine l7_calmBy hT p15 fun n s16 c16 p16 k16 => ?_
  intro v71 e71
  refine m_ofRow0 c16 ?_
  intro v74 e74
  refine m_never hT p16 fun s17 p17 k17 => ?_
  intro v77 e77
  refine m_chance (c := 5) (h := 9) (w := 0) hT p17 (by omega) (by omega) (by omega) fun s18 p18 k18 => ?_
  intro v80 e80
  refine m_chance (c := 5) (h := 9) (w := 1) hT p18 (by omega) (by omega) (by omega) fun s19 p19 k19 => ?_
  intro v83 e83
  rw [← hz]
  refine m_agesOf (n := 6) (i := 0) hA hT p19 (by omega) (by omega) fun s20 p20 k20 => ?_
  intro v86 e86
  refine m_agesOf (n := 6) (i := 1) hA hT p20 (by omega) (by omega) fun s21 p21 k21 => ?_
  rw [c16.1] at e71
  have K1 := (((((k1.tr (k7r_S k2)).tr (k7r_S k3)).tr k4).tr k5).tr k6).tr k7
  have K2 := (((((K1.tr k8).tr k9).tr k10).tr k11).tr k12).tr k13
  have K3 := (((((K2.tr k14).tr k15).tr k16).tr k17).tr k18).tr k19
  have fin := hq s21 p21 ((K3.tr k20).tr k21)
  subst e11 e14 e40 e43 e53 e56 e59 e62 e65 e68 e71 e74 e77 e80 e83 e86
  exact fin
set_option maxHeartbeats 4000000 in
theorem q_digest {σ : xSt} (h : RR σ) : d6_digest σ (fun r s1 => d7_digest s1 (fun r' s2 => r = r' ∧ RR s2)) := by
  obtain ⟨t, hT, hC, hM⟩ := h
  obtain ⟨z, x, y, w, g, h0, hA⟩ := AG_ex 7
  exact both8 (D6 := d6_digest) (D7 := d7_digest) (a := diD t g) hM hT (fun Q hq => c_digest hA h0 hT hC hq) fun s1 Q p hq => m_digest hA h0 hT p hq
