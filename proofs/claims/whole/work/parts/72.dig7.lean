-- the digest's parts, the reference's side
set_option maxHeartbeats 4000000 in
theorem m_count {t : Td} {i : Nat} {s : xSt} {Q : Int32 → xSt → Prop} (hT : VT t) (p : PM t s) (hi : i < 8) (hq : ∀ s', PM t s' → xk kS s s' → Q (cnF t i) s') : d7_count (nI i) s Q := by
  have q := hq s p xk.rf
  rcases (show i = 0 ∨ i = 1 ∨ i = 2 ∨ i = 3 ∨ i = 4 ∨ i = 5 ∨ i = 6 ∨ i = 7 by omega) with c | c | c | c | c | c | c | c
  · subst c
    exact br_t rfl (l7_sumOf hT p fun s' p' k' => bn_t rfl (hq s' p' k'))
  · subst c
    exact br_f (by decide) (br_t rfl (by rw [p.2.1.1]; exact q))
  · subst c
    refine br_f (by decide) (br_f (by decide) (br_t rfl ?_))
    rw [show nI 2 - 2 = 0 by decide, z0, p.1.1]
    exact ⟨v02, q⟩
  · subst c
    refine br_f (by decide) (br_f (by decide) (br_f (by decide) (br_t rfl ?_)))
    rw [show nI 3 - 2 = 1 by decide, z1, p.1.2.2.1]
    exact ⟨v12, q⟩
  · subst c
    exact br_f (by decide) (br_f (by decide) (br_f (by decide) (br_f (by decide) (br_t rfl (l7_sumOf hT p fun s' p' k' => bn_f (by decide) (bn_t rfl (hq s' p' k')))))))
  · subst c
    exact br_f (by decide) (br_f (by decide) (br_f (by decide) (br_f (by decide) (br_f (by decide) (br_t rfl (l7_sumOf hT p fun s' p' k' => bn_f (by decide) (bn_f (by decide) (bn_t rfl (hq s' p' k')))))))))
  · subst c
    exact br_f (by decide) (br_f (by decide) (br_f (by decide) (br_f (by decide) (br_f (by decide) (br_f (by decide) (br_t rfl (l7_sumOf hT p fun s' p' k' => bn_f (by decide) (bn_f (by decide) (bn_f (by decide) (hq s' p' k'))))))))))
  · subst c
    exact br_f (by decide) (br_f (by decide) (br_f (by decide) (br_f (by decide) (br_f (by decide) (br_f (by decide) (br_f (by decide) (br_t rfl (by rw [p.2.2.1.1]; exact q))))))))
set_option maxHeartbeats 4000000 in
theorem m_dampOf {t : Td} {j k i : Nat} {s : xSt} {Q : Int32 → xSt → Prop} (hT : VT t) (p : PM t s) (hj : j < 20) (hk : k < 12) (hi : i < 2) (hq : ∀ s', PM t s' → xk kS s s' → Q (dpF t j k i) s') : d7_dampOf (nI j) (nI k) (nI i) s Q := by
  have e0 : nI i = 0 ↔ i = 0 := nI_eq (b := 0) (by omega) (by omega)
  unfold d7_dampOf
  refine l7_runsTold hT p fun s' n _ p' k' => ?_
  have q := hq s' p' k'
  have x := n.2 j hj
  unfold dpF at q
  rw [e0]
  refine ⟨fun a => ?_, fun a => ?_⟩
  · rw [if_neg a] at q
    exact l7_manyAt (VB_bt hT) (VS.run (VB_bt hT) (j + 1) (by omega)) hj hk n.1.1 x.1 q
  · rw [if_pos a] at q
    rw [show (12 : Int32) * nI j + nI k = nI (12 * j + k) by rw [l_12, pk_mul, nI_add], ncl (a := 12 * j + k) (by omega)]
    refine ⟨nin (by omega) (by omega), ?_⟩
    rw [x.2.2.2.1 k hk]; exact q
set_option maxHeartbeats 4000000 in
theorem m_placeD {t : Td} {j : Nat} {h : Int64} {s : xSt} {Q : Int64 → xSt → Prop} (hT : VT t) (p : PM t s) (hj : j < 12) (hq : ∀ s', PM t s' → B7 (bt t) s' → xk kS s s' → Q (plD t j h) s') : d7_placeDigest h (nI j) s Q := by
  unfold d7_placeDigest d7_stoneOf
  refine l7_reads hT p.1 fun s1 b1 _ k1 => ⟨nin hj (by omega), ?_⟩
  rw [ncl (by omega), b1.2.2.1 j hj]
  intro v3 e3
  refine m_dampOf (j := 6) (i := 0) hT (p.str k1) (by omega) hj (by omega) fun s4 p4 k4 => ?_
  intro v6 e6
  refine m_dampOf (j := 6) (i := 1) hT p4 (by omega) hj (by omega) fun s7 p7 k7 => ?_
  intro v9 e9
  refine m_dampOf (j := 19) (i := 0) hT p7 (by omega) hj (by omega) fun s10 p10 k10 => ?_
  intro v12 e12
  refine m_dampOf (j := 19) (i := 1) hT p10 (by omega) hj (by omega) fun s13 p13 k13 => ?_
  intro v15 e15
  refine l7_wets' hT p13 hj fun s16 _ p16 _ k16 => ?_
  intro v18 e18
  unfold d7_askOf
  refine l7_wets' hT p16 hj fun s19 r19 p19 b19 k19 => l7_askL hT hj r19 ?_
  subst e3 e6 e9 e12 e15 e18
  exact hq s19 p19 b19 (((((((k7r_S k1).tr k4).tr k7).tr k10).tr k13).tr k16).tr k19)
set_option maxHeartbeats 4000000 in
theorem m_atOf {t : Td} {j k i : Nat} {s : xSt} {Q : Int32 → xSt → Prop} (hT : VT t) (p2 : PM t s) (hj : j < 20) (hk : k < t_m t) (hi : i < 4) (hq : ∀ s', PM t s' → xk kS s s' → Q (mv (bt t) j k i) s') : d7_atOf (nI j) (nI k) (nI i) s Q := by
  have hm := t_m_le hT
  unfold d7_atOf
  refine l7_runsTold hT p2 fun s' n _ p' k' => ?_
  have q := hq s' p' k'
  have x := n.2 j hj
  intro v2 e2
  rw [show (8 : Int32) * nI j + nI k = nI (8 * j + k) by rw [l_8, pk_mul, nI_add]] at e2
  subst e2
  rw [ncl (a := j) (by omega), ncl (a := 8 * j + k) (by omega)]
  unfold mv at q
  refine w_case4 hi ⟨fun a => ⟨fun b' => ⟨fun c' => ⟨nin (by omega) (by omega), ?_⟩, fun c' => ⟨nin hj (by omega), ?_⟩⟩, fun b' => ⟨nin (by omega) (by omega), ?_⟩⟩, fun a => ⟨nin (by omega) (by omega), ?_⟩⟩
  · rw [if_neg a, if_neg b', if_neg c'] at q; rw [x.2.2.1 k hk]; exact q
  · rw [if_neg a, if_neg b', if_pos c'] at q
    unfold d7_isIn
    rw [x.2.2.2.2.1, s_rb_bit (VB_bt hT) hk]
    by_cases z : j < un (s_run (bt t) (j + 1)) k
    · rw [if_pos z] at q ⊢
      exact bn_t rfl (br_f (by decide) q)
    · rw [if_neg z] at q ⊢
      exact bn_f (by decide) (br_t rfl q)
  · rw [if_neg a, if_pos b'] at q; rw [x.2.1 k hk]; exact q
  · rw [if_pos a] at q; rw [x.1 k hk]; exact q
set_option maxHeartbeats 4000000 in
theorem m_hourD {t : Td} {j k : Nat} {h : Int64} {s : xSt} {Q : Int64 → xSt → Prop} (hT : VT t) (p : PM t s) (hj : j < 20) (hk : k < t_m t) (hq : ∀ s', PM t s' → xk kS s s' → Q (it (fun w h => st h (mv (bt t) j k w)) 4 h) s') : d7_hourDigest h (nI j) (nI k) s Q := by
  have hm := t_m_le hT
  unfold d7_hourDigest
  refine lp0 (fun n w s2 => d7_hourDigest_L6 (nI j) (nI k) (fun v7 s6 => Q v7 s6) Q n (it (fun w h => st h (mv (bt t) j k w)) w h) (nI w) s2) (fun w s2 => PM t s2 ∧ xk kS s s2) 4 (by omega) ?_ ?_ s ⟨p, xk.rf⟩
  · intro n s2 ⟨h1, h2⟩
    rw [d7_hourDigest_L6]
    exact br_t (Int32.le_refl _) (hq s2 h1 h2)
  · intro n w s2 hw ⟨h1, h2⟩ ih
    rw [d7_hourDigest_L6]
    refine br_f (nle (a := 4) hw (by omega)) (m_atOf hT h1 hj hk hw fun s3 p3 k3 => ?_)
    intro v4 e4 v5 e5
    rw [nI_1] at e5
    subst e4 e5
    exact ih s3 ⟨p3, h2.tr k3⟩
set_option maxHeartbeats 4000000 in
theorem m_seatOf {t : Td} {j i : Nat} {s : xSt} {Q : Int32 → xSt → Prop} (hT : VT t) (p3 : PM t s) (hj : j < t_m t) (hi : i < 2) (hq : ∀ s', PM t s' → xk kS s s' → Q (if i = 0 then (bst (seF t j) 12).1 else (bst (seF t j) 12).2) s') : d7_seatOf (nI j) (nI i) s Q := by
  have hm := t_m_le hT
  have e0 : nI i = 0 ↔ i = 0 := nI_eq (b := 0) (by omega) (by omega)
  unfold d7_seatOf
  refine l7_asTold hT p3 fun s2 b2 e2 _ p2 k2 => ⟨nin (by omega) (by omega), ?_⟩
  intro v3 _
  refine l7_seatL hT hj p2 b2 e2 fun s' p' k' => ⟨nin (by omega) (by omega), ?_⟩
  intro s21 e21
  have k21 : xk kT7 s' s21 := by subst e21; exact xk.rf.uA rfl
  have q := hq s21 (p'.stT k21) (((kT7_S k2).tr k').tr (kT7_S k21))
  rw [e0]
  refine ⟨fun a => ?_, fun a => ?_⟩
  · rw [if_neg a] at q; exact q
  · rw [if_pos a] at q; exact q
set_option maxHeartbeats 4000000 in
theorem b_so_id (b : Bl) (k : Nat) : b_so b k (bs b k) = b := by
  unfold b_so bs
  rw [fu_id]
set_option maxHeartbeats 4000000 in
theorem l7_sortsL2 {t : Td} {k : Nat} {a2 : Int32} {s : xSt} {Q K : Int32 → xSt → Prop} (hT : VT t) (hk : k < t_m t) (hM : PM t s) (hB : B7 (bt t) s) (hE : E7t t s) (hq : ∀ s', PM t s' → (∃ b, B7 b s' ∧ ∀ p, b_so b k p = b_so (bt t) k p) → xk kS s s' → K (bits (soF t k) 3) s') : d7_sortsBy_L16 (nI k) a2 K Q x_lim 0 0 s := by
  have hm := t_m_le hT
  refine lp0 (fun n i s2 => d7_sortsBy_L16 (nI k) a2 K Q n (bits (soF t k) i) (nI i) s2) (fun i s2 => PM t s2 ∧ (∃ b, B7 b s2 ∧ VB b ∧ (be b = be (bt t)) ∧ ∀ p, b_so b k p = b_so (bt t) k p) ∧ E7t t s2 ∧ xk kS s s2) 3 (by omega) ?_ ?_ s ⟨hM, ⟨bt t, hB, VB_bt hT, rfl, fun _ => rfl⟩, hE, xk.rf⟩
  · intro n s2 ⟨h1, ⟨b, h2, _, _, h7⟩, _, h4⟩
    rw [d7_sortsBy_L16]
    exact br_t (Int32.le_refl _) (hq s2 h1 ⟨b, h2, h7⟩ h4)
  · intro n i s2 hi ⟨h1, ⟨b, h2, h5, h6, h7⟩, h3, h4⟩ ih
    rw [d7_sortsBy_L16, ncl (a := k) (by omega)]
    refine br_f (nle (a := 3) hi (by omega)) ⟨nin (by omega) (by omega), ?_⟩
    intro s6 e6
    have k6 : xk kT7 s2 s6 := by subst e6; exact xk.rf.uA rfl
    have b6 : B7 (b_so b k i) s6 := by
      obtain ⟨g1, g2, g3, g4, g5⟩ := h2
      subst e6
      exact ⟨g1, by rw [xA_xuA_eq]; exact arow2 g2 rfl, by rw [xA_xuA_ne (by decide)]; exact g3, by rw [xA_xuA_ne (by decide)]; exact g4, by rw [xA_xuA_ne (by decide)]; exact g5⟩
    have t6 : E7t t s6 := by
      subst e6
      exact ⟨h3.1, by rw [xA_xuA_ne (by decide), xA_xuA_ne (by decide), xA_xuA_ne (by decide)]; exact h3.2.1, h3.2.2⟩
    clear e6
    have p6 : PM t s6 := h1.stT k6
    have v6 := VB_so (k := k) (v := i) h5 (by omega)
    refine l7_isSeen hT p6 v6 b6 ((t6.e7 hT).of h6) fun s3 n3 p3 k3 => ?_
    rw [h7 i]
    unfold jn
    exact bits_jn (f := soF t k) (i := i) (P := fun v => ∀ v11 : Int32, v11 = nI i + 1 → d7_sortsBy_L16 (nI k) a2 K Q n v v11 s3) (fun v e => by
      rw [nI_1] at e; subst e
      exact ih s3 ⟨p3, ⟨b_so b k i, b6.keep k3 rfl rfl rfl rfl rfl, v6, h6, fun p => by rw [b_so_so, h7 p]⟩, t6.keep k3 rfl rfl rfl rfl rfl, (h4.tr (kT7_S k6)).tr (kr7_S k3)⟩)
set_option maxHeartbeats 4000000 in
theorem m_sortsBy {t : Td} {j : Nat} {s : xSt} {Q : Int32 → xSt → Prop} (hT : VT t) (p3 : PM t s) (hj : j < t_m t) (hq : ∀ s', PM t s' → B7 (bt t) s' → xk kS s s' → Q (bits (soF t j) 3) s') : d7_sortsBy (nI j) s Q := by
  have hm := t_m_le hT
  unfold d7_sortsBy
  refine l7_asTold hT p3 fun s2 b2 e2 _ p2 k2 => ⟨nin (by omega) (by omega), ?_⟩
  intro v3 e3
  rw [ncl (by omega)] at e3 ⊢
  rw [b2.2.1 j hj] at e3
  refine l7_sortsL2 hT hj p2 b2 e2 fun s' p' ⟨b, h2, h7⟩ k' => ⟨nin (by omega) (by omega), ?_⟩
  intro s18 e18
  have k18 : xk kT7 s' s18 := by subst e18; exact xk.rf.uA rfl
  have b18 : B7 (b_so b j (bs (bt t) j)) s18 := by
    obtain ⟨g1, g2, g3, g4, g5⟩ := h2
    subst e18
    exact ⟨g1, by rw [xA_xuA_eq]; exact arow2 g2 e3, by rw [xA_xuA_ne (by decide)]; exact g3, by rw [xA_xuA_ne (by decide)]; exact g4, by rw [xA_xuA_ne (by decide)]; exact g5⟩
  rw [h7, b_so_id] at b18
  exact hq s18 (p'.stT k18) b18 (((kT7_S k2).tr k').tr (kT7_S k18))
set_option maxHeartbeats 4000000 in
theorem m_memberOf {t : Td} {j i : Nat} {s : xSt} {Q : Int32 → xSt → Prop} (hT : VT t) (b : B7 (bt t) s) (hj : j < t_m t) (hi : i < 3) (hq : Q (mbF t j i) s) : d7_memberOf (nI j) (nI i) s Q := by
  have hm := t_m_le hT
  unfold mbF at hq
  unfold d7_memberOf
  rw [ncl (by omega)]
  refine w_case hi ⟨fun a => ⟨fun b' => ⟨nin (by omega) (by omega), ?_⟩, fun b' => ⟨nin (by omega) (by omega), ?_⟩⟩, fun a => ⟨nin (by omega) (by omega), ?_⟩⟩
  · rw [if_neg a, if_neg b'] at hq; rw [b.2.2.2.2 j hj]; exact hq
  · rw [if_neg a, if_pos b'] at hq; rw [b.2.2.2.1 j hj]; exact hq
  · rw [if_pos a] at hq; rw [b.2.1 j hj]; exact hq
set_option maxHeartbeats 4000000 in
theorem m_mbL {t : Td} {j : Nat} {h : Int64} {s : xSt} {K Q : Int64 → xSt → Prop} (hT : VT t) (b : B7 (bt t) s) (hj : j < t_m t) (hq : K (mbD t j h) s) : d7_memberDigest_L6 (nI j) K Q x_lim h 0 s := by
  have hm := t_m_le hT
  refine lp0 (fun n i (_ : Unit) => d7_memberDigest_L6 (nI j) K Q n (it (fun i h => st h (mbF t j i)) i h) (nI i) s) (fun _ _ => True) 3 (by omega) ?_ ?_ () trivial
  · intro n _ _
    rw [d7_memberDigest_L6]
    exact br_t (Int32.le_refl _) hq
  · intro n i _ hi _ ih
    rw [d7_memberDigest_L6]
    refine br_f (nle (a := 3) hi (by omega)) (m_memberOf hT b hj hi ?_)
    intro v4 e4 v5 e5
    rw [nI_1] at e5
    subst e4 e5
    exact ih () trivial
set_option maxHeartbeats 4000000 in
theorem dh_0 : dhN 0 = 0 := by decide
set_option maxHeartbeats 4000000 in
theorem dh_1 : dhN 1 = 7 := by decide
set_option maxHeartbeats 4000000 in
theorem dh_2 : dhN 2 = 19 := by decide
set_option maxHeartbeats 4000000 in
theorem atD_3 (t : Td) (m : Nat) (h : Int64) : atD t m h = it (fun w h => st h (mv (bt t) 19 m w)) 4 (it (fun w h => st h (mv (bt t) 7 m w)) 4 (it (fun w h => st h (mv (bt t) 0 m w)) 4 h)) := by
  unfold atD
  rw [it_s (fun i h => it (fun w h => st h (mv (bt t) (dhN i) m w)) 4 h) 2 h, it_s (fun i h => it (fun w h => st h (mv (bt t) (dhN i) m w)) 4 h) 1 h, it_s (fun i h => it (fun w h => st h (mv (bt t) (dhN i) m w)) 4 h) 0 h, it_z (fun i h => it (fun w h => st h (mv (bt t) (dhN i) m w)) 4 h) h]
  rw [dh_0, dh_1, dh_2]
set_option maxHeartbeats 4000000 in
theorem m_memberD {t : Td} {j : Nat} {h : Int64} {s : xSt} {Q : Int64 → xSt → Prop} (hT : VT t) (p : PM t s) (b : B7 (bt t) s) (hj : j < t_m t) (hq : ∀ s', PM t s' → B7 (bt t) s' → xk kS s s' → Q (meD t j h) s') : d7_memberDigest h (nI j) s Q := by
  unfold d7_memberDigest
  refine m_mbL hT b hj ?_
  refine m_hourD (j := 0) hT p (by omega) hj fun s8 p8 k8 => m_hourD (j := 7) hT p8 (by omega) hj fun s10 p10 k10 => m_hourD (j := 19) hT p10 (by omega) hj fun s12 p12 k12 => ?_
  rw [← atD_3]
  refine m_seatOf (i := 0) hT p12 hj (by omega) fun s14 p14 k14 => ?_
  intro v16 e16
  refine m_seatOf (i := 1) hT p14 hj (by omega) fun s17 p17 k17 => ?_
  intro v19 e19
  refine m_sortsBy hT p17 hj fun s20 p20 b20 k20 => ?_
  subst e16 e19
  exact hq s20 p20 b20 (((((k8.tr k10).tr k12).tr k14).tr k17).tr k20)
set_option maxHeartbeats 4000000 in
theorem m_houseOf {t : Td} {j i : Nat} {s : xSt} {Q : Int32 → xSt → Prop} (hT : VT t) (p : PM t s) (hj : j < 20) (hi : i < 3) (hq : ∀ s', PM t s' → xk kS s s' → Q (hoF t j i) s') : d7_houseOf (nI j) (nI i) s Q := by
  unfold d7_houseOf
  refine l7_runsTold hT p fun s' n _ p' k => ?_
  have q := hq s' p' k
  have x := n.2 j hj
  unfold hoF at q
  refine w_case hi ⟨fun a => ⟨fun b' => l7_isCarried (VB_bt hT) n hj ?_, fun b' => ⟨nin hj (by omega), ?_⟩⟩, fun a => ⟨nin hj (by omega), ?_⟩⟩
  · rw [if_neg a, if_neg b'] at q
    cases z : ca (bt t) j
    · rw [z] at q; exact br_t rfl q
    · rw [z] at q; exact br_f (by decide) q
  · rw [if_neg a, if_pos b'] at q
    rw [ncl (by omega), x.2.2.2.2.2.2]; exact q
  · rw [if_pos a] at q
    rw [ncl (by omega), x.2.2.2.2.2.1]; exact q
set_option maxHeartbeats 4000000 in
theorem m_crowdOf {t : Td} {i : Nat} {s : xSt} {Q : Int32 → xSt → Prop} (hT : VT t) (p : PM t s) (hi : i < 3) (hq : ∀ s', PM t s' → xk kS s s' → Q (crF t i) s') : d7_crowdOf (nI i) s Q := by
  have hm := t_m_le hT
  have hb := VB_bt hT
  have e0 : nI i = 0 ↔ i = 0 := nI_eq (b := 0) (by omega) (by omega)
  have e1 : nI i = 1 ↔ i = 1 := nI_eq (b := 1) (by omega) (by omega)
  have lc := cr_le hb 240
  have hdiv : nI (cr (bt t) 240).1 / (12 : Int32) = nI ((cr (bt t) 240).1 / 12) := pk_div (d := 12) (by omega) (by omega) (by omega)
  have hrem : nI (cr (bt t) 240).1 - nI (cr (bt t) 240).1 / 12 * 12 = nI ((cr (bt t) 240).1 % 12) := pk_rem (d := 12) (by omega) (by omega) (by omega)
  unfold crF at hq
  unfold d7_crowdOf
  refine l7_runsTold hT p fun s' n _ p' k' => l7_crowdL hb n ?_
  have q := hq s' p' k'
  rw [e0, e1]
  by_cases z : t_m t = 0
  · rw [if_pos z] at q
    have c0 : (cr (bt t) 240).2 = 0 := by
      have : ∀ i, (cr (bt t) i).2 = 0 := by
        intro i
        induction i with
        | zero => rfl
        | succ i ih =>
          have e : cr (bt t) (i + 1) = if (cr (bt t) i).2 < hd (bt t) i then (i, hd (bt t) i) else cr (bt t) i := rfl
          have h0 : hd (bt t) i = 0 := by
            have := heads_le (bt t) (s_run (bt t) (i / 12 + 1)) (i % 12) (bm (bt t))
            rw [bt_m, z] at this
            unfold hd s_heads
            rw [bt_m, z]; exact Nat.le_zero.mp this
          rw [e, h0, if_neg (by omega)]; exact ih
      exact this 240
    unfold mb
    rw [if_pos c0]
    exact bn_t rfl q
  · rw [if_neg z] at q
    have c0 := cr_pos hb (by rw [bt_m]; omega)
    unfold mb
    rw [if_neg (by omega), hrem, hdiv]
    refine bn_f (nI_nm (by omega)) ⟨fun a => ⟨fun b' => ?_, fun b' => ⟨by decide, ?_⟩⟩, fun a => ⟨by decide, ?_⟩⟩
    · rw [if_neg a, if_neg b'] at q; exact q
    · rw [if_neg a, if_pos b'] at q; exact q
    · rw [if_pos a] at q; exact q
set_option maxHeartbeats 4000000 in
theorem m_oratorOf {t : Td} {s : xSt} {Q : Int32 → xSt → Prop} (hT : VT t) (p : PM t s) (hq : ∀ s', PM t s' → xk kS s s' → Q (orF t) s') : d7_oratorOf s Q := by
  unfold d7_oratorOf
  exact l7_runsTold hT p fun s' n _ p' k' => l7_oratorL (VB_bt hT) n (hq s' p' k')
set_option maxHeartbeats 4000000 in
theorem m_stillOf {t : Td} {s : xSt} {Q : Int32 → xSt → Prop} (hT : VT t) (p : PM t s) (hq : ∀ s', PM t s' → xk kS s s' → Q (stF t) s') : d7_stillOf s Q := by
  unfold d7_stillOf
  refine l7_runsTold hT p fun s' n _ p' k => ?_
  rw [n.1.1, n.1.2.2.2.2.2.2.2]; exact hq s' p' k
set_option maxHeartbeats 4000000 in
theorem m_dustOf {t : Td} {j i : Nat} {s : xSt} {Q : Int32 → xSt → Prop} (hT : VT t) (p : PM t s) (hj : j < 20) (hi : i < 2) (hq : ∀ s', PM t s' → xk kS s s' → Q (if i = 0 then (bst (dsF t j) 12).1 else (bst (dsF t j) 12).2) s') : d7_dustOf (nI j) (nI i) s Q := by
  have e0 : nI i = 0 ↔ i = 0 := nI_eq (b := 0) (by omega) (by omega)
  unfold d7_dustOf
  refine l7_asTold hT p fun s2 b2 e2 _ p2 k2 => l7_dustL hT hj p2 b2 e2.x fun s' p' k' => ?_
  have q := hq s' p' ((kT7_S k2).tr k')
  rw [e0]
  refine ⟨fun a => ?_, fun a => ?_⟩
  · rw [if_neg a] at q; exact q
  · rw [if_pos a] at q; exact q
set_option maxHeartbeats 4000000 in
theorem m_boyOf {t : Td} {i : Nat} {s : xSt} {Q : Int32 → xSt → Prop} (hT : VT t) (p : PM t s) (hi : i < 2) (hq : ∀ s', PM t s' → xk kS s s' → Q (if i = 0 then (bst (byF t) 20).1 else (bst (byF t) 20).2) s') : d7_boyOf (nI i) s Q := by
  have e0 : nI i = 0 ↔ i = 0 := nI_eq (b := 0) (by omega) (by omega)
  unfold d7_boyOf
  refine l7_asTold hT p fun s2 b2 e2 _ p2 k2 => l7_boyL hT p2 b2 e2.x fun s' p' k' => ?_
  have q := hq s' p' ((kT7_S k2).tr k')
  rw [e0]
  refine ⟨fun a => ?_, fun a => ?_⟩
  · rw [if_neg a] at q; exact q
  · rw [if_pos a] at q; exact q
set_option maxHeartbeats 4000000 in
theorem m_never {t : Td} {s : xSt} {Q : Int32 → xSt → Prop} (hT : VT t) (p : PM t s) (hq : ∀ s', PM t s' → xk kS s s' → Q (bits (nvF t) (tne t)) s') : d7_neverNow s Q := by
  have hn := hT.2.2.1
  unfold d7_neverNow
  refine l7_asTold hT p fun s2 b2 e2 _ p2 k2 => ?_
  refine lp0 (fun n i s3 => d7_neverNow_L8 (fun v13 s12 => Q v13 s12) Q n (bits (nvF t) i) (nI i) s3) (fun i s3 => W7 t s3 ∧ xk kS s s3) (tne t) (by omega) ?_ ?_ s2 ⟨W7.of p2 b2 e2, kT7_S k2⟩
  · intro n s3 ⟨h1, h4⟩
    rw [d7_neverNow_L8, h1.1.2.1.1]
    exact br_t (Int32.le_refl _) (hq s3 h1.1 h4)
  · intro n i s3 hi ⟨h1, h4⟩ ih
    have m1 := mk1 i (by omega)
    rw [d7_neverNow_L8, h1.1.2.1.1, m1.1]
    refine br_f (nle hi (by omega)) ?_
    intro s4 e4
    obtain ⟨w, b, e, k⟩ := h1.e7 (m := 2 ^ i) hT m1.2 e4
    refine l7_isSeen hT w.1 (VB_w hT) b e fun s5 n5 p5 k5 => ?_
    unfold jn
    rw [← m1.1]
    exact bits_jn (f := nvF t) (i := i) (P := fun v => ∀ v11 : Int32, v11 = nI i + 1 → d7_neverNow_L8 (fun v13 s12 => Q v13 s12) Q n v v11 s5) (fun v e => by
      rw [nI_1] at e; subst e
      exact ih s5 ⟨w.st7 k5, (h4.tr (kP7_S k)).tr (kr7_S k5)⟩)
set_option maxHeartbeats 4000000 in
theorem m_agesOf {t : Td} {z x y u : Nat → Int32} {g : Nat → Ev} {n i : Nat} {s : xSt} {Q : Int32 → xSt → Prop} (hA : AG z x y u g) (hT : VT t) (p : PM t s) (hn : n ≤ 8) (hi : i < 2) (hq : ∀ s', PM t s' → xk kS s s' → Q (if i = 0 then nI (carN (b_a t g n) 20) else nI (govN (b_a t g n) 19)) s') : d7_agesOf (z 0) (nI n) (nI i) s Q := by
  have e0 : nI i = 0 ↔ i = 0 := nI_eq (b := 0) (by omega) (by omega)
  unfold d7_agesOf
  refine l7_asTold hT p fun s2 b2 e2 _ p2 k2 => ?_
  intro s3 e3
  have k3 : xk kE7 s2 s3 := by subst e3; exact xk.rf.sI rfl
  have i3 : xI s3 13 12 = nI n := by subst e3; exact xI_xsI_eq _ _ _ _
  have j3 : xI s3 13 16 = 0 := by subst e3; rw [xI_xsI_ne (by decide)]; exact e2.2.2
  clear e3
  refine l7_agesL hA (by omega) fun s4 g1 g2 g3 k4' => ?_
  have k4 : xk kE7 s3 s4 := k4'.mono (fun t o k q => by
    simp only [kE7, k715, Bool.not_eq_true', Bool.and_eq_false_iff, Bool.or_eq_false_iff, beq_eq_false_iff_ne, decide_eq_false_iff_not] at q ⊢
    omega)
  have kk := k3.tr k4
  have b4 : B7 (b_a t g n) s4 := b2.keep kk rfl rfl rfl rfl rfl
  have e4 : E7 (b_a t g n) s4 := by
    refine ⟨n, g, fun _ => false, by omega, by rw [k4'.1 13 12 rfl]; exact i3, fun e he => ⟨g1 e he, g2 e he, g3 e he⟩, fun e he => ?_, ?_, fun e _ => hA.2.2 e⟩
    · rw [k4'.1 13 16 rfl, j3]
      exact ⟨fun q => absurd q (no_ev e (by omega)), fun q => by cases q⟩
    · show List.map g (List.range n) = List.map g (List.filter (fun _ => true) (List.range n))
      rw [(List.filter_eq_self (p := fun _ => true)).mpr (fun _ _ => rfl)]
  refine l7_runs (VB_a hT hA.2.2) b4 e4 fun s5 n5 k5 => ?_
  have q := hq s5 ((p2.stT (kE7_T kk)).st7 k5) (((kT7_S k2).tr (kT7_S (kE7_T kk))).tr (kr7_S k5))
  rw [e0]
  refine ⟨fun x => l7_governmentsNow (VB_a hT hA.2.2) n5 ?_, fun x => l7_carriedNow (VB_a hT hA.2.2) n5 ?_⟩
  · rw [if_neg x] at q; exact q
  · rw [if_pos x] at q; exact q
set_option maxHeartbeats 4000000 in
theorem m_ofRow0 {t : Td} {n : Int32} {s : xSt} {Q : Int32 → xSt → Prop} (c : CR t n s) (hq : Q (cl t).2.1 s) : d7_ofRow n 0 s Q := by
  obtain ⟨c1, c2, c3, c4, c5⟩ := c
  unfold d7_ofRow
  refine bn_f (by decide) ?_
  rcases c5 with x | x | x | x
  · subst x; rw [(c4 (Or.inl rfl)).1] at hq; exact br_t (by decide) hq
  · subst x; rw [← (c2 rfl).1] at hq; exact br_f (by decide) ⟨v02, hq⟩
  · subst x; rw [← (c3 rfl).1] at hq; exact br_f (by decide) ⟨v02, hq⟩
  · subst x; rw [(c4 (Or.inr rfl)).1] at hq; exact br_t (by decide) hq
