-- write
set_option maxHeartbeats 4000000 in
theorem c_setItem {k sz p : Nat} {v : Int32} {s : xSt} {Q : xSt → Prop} (h2 : xI s (9 + k) 2 = nI sz) (hp : p < sz) (hs : sz ≤ 60) (hq : ∀ s', s' = xuA s (9 + k) 0 p (nw (xI s (9 + k) 1) v) → Q s') : d3_setItem (9 + k) (nI p) v s Q := by
  unfold d3_setItem d3_hasItem
  rw [h2]
  refine br_f (nI_pos (by omega)) (br_f (nle hp (by omega)) (br_f (nle (a := 60) (by omega) (by omega)) (bn_f (by decide) ?_)))
  rw [ncl (by omega)]
  unfold nw at hq
  refine ⟨fun a => ⟨fun b => ⟨nin (by omega) (by omega), ?_⟩, fun b => ⟨nin (by omega) (by omega), ?_⟩⟩, fun a => ⟨nin (by omega) (by omega), ?_⟩⟩
  · rw [if_neg a, if_neg b] at hq; exact hq
  · rw [if_neg a, if_pos b] at hq; exact hq
  · rw [if_pos a] at hq; exact hq
set_option maxHeartbeats 4000000 in
theorem m_keep {k p : Nat} {v : Int32} {s : xSt} {Q : xSt → Prop} (hk : k < 4) (hp : p < 60) (hq : ∀ s', s' = xuA s 13 39 (60 * k + p) (nw (xA s 13 37 k) v) → Q s') : d7_keep (nI k) (nI p) v s Q := by
  unfold d7_keep
  rw [show (60 : Int32) * nI k + nI p = nI (60 * k + p) by rw [show (60 : Int32) = nI 60 from rfl, pk_mul, nI_add], ncl (a := k) (by omega), ncl (a := 60 * k + p) (by omega)]
  unfold nw at hq
  refine ⟨nin hk (by omega), ⟨fun a => ⟨nin hk (by omega), ⟨fun b => ⟨nin (by omega) (by omega), ?_⟩, fun b => ⟨nin (by omega) (by omega), ?_⟩⟩⟩, fun a => ⟨nin (by omega) (by omega), ?_⟩⟩⟩
  · rw [if_neg a, if_neg b] at hq; exact hq
  · rw [if_neg a, if_pos b] at hq; exact hq
  · rw [if_pos a] at hq; exact hq
def wrn (z : Nat) : Nat := if 12 < z then 12 else z
def wrf (b : Bl) (h : Nat) (f : Int32) (g : Nat → Int32) (n : Nat) (q : Nat) : Int32 := if q < n then nw f (nI (dm (s_run b (h + 1)) q)) else g q
set_option maxHeartbeats 4000000 in
theorem l2_dampOf {c h p : Nat} {b : Bl} {s : xSt} {Q : Int32 → xSt → Prop} (hh : h < 20) (hp : p < 12) (hx : xB s c 10 h p = nI (dm (s_run b (h + 1)) p)) (hq : Q (nI (dm (s_run b (h + 1)) p)) s) : d2_dampOf c (nI h) (nI p) s Q := by
  unfold d2_dampOf
  refine l6_isHour hh (br_f (by decide) (l6_isPlace hp (br_f (by decide) ⟨nin hh (by omega), nin hp (by omega), ?_⟩)))
  rw [ncl (a := h) (by omega), ncl (a := p) (by omega), hx]; exact hq
set_option maxHeartbeats 4000000 in
theorem min12 {z : Nat} (h : z ≤ 60) : (if (12 : Int32) < nI z then 12 else nI z) = nI (wrn z) := by
  unfold wrn
  by_cases c : 12 < z
  · rw [if_pos c, if_pos (show (12 : Int32) < nI z from nI_lt (a := 12) c (by omega))]; rfl
  · rw [if_neg c, if_neg (show ¬ (12 : Int32) < nI z from nlt (a := 12) (b := z) (by omega) (by omega))]
set_option maxHeartbeats 4000000 in
theorem c_write {t : Td} {h k : Nat} {s : xSt} {Q : Int32 → xSt → Prop} (hT : VT t) (hC : PC t s) (n2 : N2 5 (bt t) 20 s) (hh : h < 20) (hk : k < 4) (hq : ∀ s', PC (tS t k (tsf t k) (tsz t k) (wrf (bt t) h (tsf t k) (tit t k) (wrn (tsz t k)))) s' → xk kR s s' → Q (nI (wrn (tsz t k))) s') : d6_write_L53 (9 + k) (nI h) (nI (wrn (tsz t k))) (fun s20 => Q (nI (wrn (tsz t k))) s20) Q x_lim 0 s := by
  have x := hC.1.2.2.2.2.1 k hk
  have z := hT.2.2.2.2.2.2.2 k hk
  have F : ∀ a c, kO k a (9 + k) c = false := fun a c => by simp [kO]
  have w1 : wrn (tsz t k) ≤ tsz t k := by unfold wrn; split <;> omega
  have w2 : wrn (tsz t k) ≤ 12 := by unfold wrn; split <;> omega
  refine lp0 (fun n i s3 => d6_write_L53 (9 + k) (nI h) (nI (wrn (tsz t k))) (fun s20 => Q (nI (wrn (tsz t k))) s20) Q n (nI i) s3) (fun i s3 => (∀ q, q < tsz t k → xA s3 (9 + k) 0 q = wrf (bt t) h (tsf t k) (tit t k) i q) ∧ xI s3 (9 + k) 1 = tsf t k ∧ xI s3 (9 + k) 2 = nI (tsz t k) ∧ xk (kO k) s s3) (wrn (tsz t k)) (by omega) ?_ ?_ s ⟨fun q hq => by rw [x.2.2 q hq]; unfold wrf; rw [if_neg (by omega)], x.1, x.2.1, xk.rf⟩
  · intro n s3 ⟨g1, g2, g3, g4⟩
    rw [d6_write_L53]
    have g := c_sheet (it := wrf (bt t) h (tsf t k) (tit t k) (wrn (tsz t k))) hC hk g4 g2 g3 g1
    exact br_t (Int32.le_refl _) (hq s3 g.1 g.2)
  · intro n i s3 hi ⟨g1, g2, g3, g4⟩ ih
    rw [d6_write_L53]
    refine br_f (nle hi (by omega)) (l2_dampOf (b := bt t) hh (by omega) ?_ (c_setItem g3 (by omega) z ?_))
    · rw [g4.2.2 5 10 h (by simp only [kO, Bool.not_eq_true', beq_eq_false_iff_ne]; omega)]
      exact (n2.2 h hh).1 i (by omega)
    · intro s' e' v19 e19
      rw [nI_1] at e19
      rw [g2] at e'
      subst e19 e'
      refine ih _ ⟨fun q hq => ?_, g2, g3, g4.uA (F _ _)⟩
      rw [xA_xuA_eq, upd_ap]
      unfold wrf
      by_cases c : q = i
      · rw [if_pos c, if_pos (by omega), c]
      · rw [if_neg c, g1 q hq]
        unfold wrf
        by_cases d : q < i
        · rw [if_pos d, if_pos (by omega)]
        · rw [if_neg d, if_neg (by omega)]
set_option maxHeartbeats 4000000 in
theorem m_write {t : Td} {h k : Nat} {s : xSt} {Q : Int32 → xSt → Prop} (hT : VT t) (p : PM t s) (n7 : N7 (bt t) s) (hh : h < 20) (hk : k < 4) (A : ¬ tsf t k = -1) (hq : ∀ s', PM (tS t k (tsf t k) (tsz t k) (wrf (bt t) h (tsf t k) (tit t k) (wrn (tsz t k)))) s' → xk kS s s' → Q (nI (wrn (tsz t k))) s') : d7_write_L38 (nI h) (nI k) (fun v17 s16 => Q v17 s16) Q x_lim 0 s := by
  have y := p.2.2.2.1 k hk
  have z := hT.2.2.2.2.2.2.2 k hk
  rw [if_neg A] at y
  have w1 : wrn (tsz t k) ≤ tsz t k := by unfold wrn; split <;> omega
  have w2 : wrn (tsz t k) ≤ 12 := by unfold wrn; split <;> omega
  have w3 : wrn (tsz t k) = tsz t k ∨ wrn (tsz t k) = 12 := by unfold wrn; split <;> omega
  have dk : xA s 13 38 k = nI (tsz t k) := y.2.2.1 A
  have fk : xA s 13 37 k = tsf t k := y.2.1 A
  refine lp0 (fun n i s3 => d7_write_L38 (nI h) (nI k) (fun v17 s16 => Q v17 s16) Q n (nI i) s3) (fun i s3 => (∀ q, xA s3 13 39 q = if 60 * k ≤ q ∧ q < 60 * k + i then nw (tsf t k) (nI (dm (s_run (bt t) (h + 1)) (q - 60 * k))) else xA s 13 39 q) ∧ xk kcp s s3) (wrn (tsz t k)) (by omega) ?_ ?_ s ⟨fun q => by rw [if_neg (by omega)], xk.rf⟩
  · intro n s3 ⟨g1, g2⟩
    have fin : Q (nI (wrn (tsz t k))) s3 := by
      refine hq s3 (m_items p g2 fun q h4 B j hj => ?_) (g2.mono fun a o c q => ?_)
      · have zq := hT.2.2.2.2.2.2.2 q h4
        rw [g1]
        by_cases c : q = k
        · subst c
          rw [if_pos rfl]
          unfold wrf
          by_cases d : j < wrn (tsz t q)
          · rw [if_pos d, if_pos (by omega), show 60 * q + j - 60 * q = j by omega]
          · rw [if_neg d, if_neg (by omega)]
            exact (p.2.2.2.1 q h4).2.2.2 B j hj
        · rw [if_neg c, if_neg (by omega)]
          exact (p.2.2.2.1 q h4).2.2.2 B j hj
      · simp only [kS, kcp, Bool.not_eq_true', Bool.and_eq_false_iff, beq_eq_false_iff_ne] at q ⊢
        exact Or.inl (Or.inl q)
    rw [d7_write_L38, ncl (a := k) (by omega), g2.2.1 13 38 rfl, dk]
    refine ⟨nin hk (by omega), fun _ => fin, fun c => br_t ?_ fin⟩
    rcases w3 with w | w
    · rw [w] at c; exact absurd (Int32.le_refl _) c
    · rw [w]; exact Int32.le_refl _
  · intro n i s3 hi ⟨g1, g2⟩ ih
    rw [d7_write_L38, ncl (a := k) (by omega), g2.2.1 13 38 rfl, dk, show (12 : Int32) * nI h + nI i = nI (12 * h + i) by rw [l_12, pk_mul, nI_add], ncl (a := 12 * h + i) (by omega), g2.2.1 13 23 rfl, (n7.2 h hh).2.2.2.1 i (by omega)]
    refine ⟨nin hk (by omega), br_f (nle (by omega) (by omega)) (br_f (nle (a := 12) (by omega) (by omega)) ⟨nin (by omega) (by omega), m_keep hk (by omega) ?_⟩)⟩
    rw [g2.2.1 13 37 rfl, fk]
    intro s' e' v15 e15
    rw [nI_1] at e15
    subst e' e15
    refine ih _ ⟨fun q => ?_, g2.uA rfl⟩
    rw [xA_xuA_eq, upd_ap]
    by_cases c : q = 60 * k + i
    · rw [if_pos c, if_pos (by omega), show q - 60 * k = i by omega]
    · rw [if_neg c, g1 q]
      by_cases d : 60 * k ≤ q ∧ q < 60 * k + i
      · rw [if_pos d, if_pos (by omega)]
      · rw [if_neg d, if_neg (by omega)]
set_option maxHeartbeats 4000000 in
theorem q_write {a b : Int32} {σ : xSt} (h : RR σ) : d6_write a b σ (fun r s1 => d7_write a b s1 (fun r' s2 => r = r' ∧ RR s2)) := by
  obtain ⟨t, hT, hC, hM⟩ := h
  by_cases c : ∃ j, j < 20 ∧ a = nI j
  rotate_left
  · refine same (D6 := d6_write a b) (D7 := d7_write a b) hT hC hM (a := -2) (fun Q q => ?_) (fun Q q => l7_hourB c (br_t rfl q))
    by_cases d : ∃ k, k < 4 ∧ b = nI k
    · obtain ⟨l, hl, e⟩ := d
      subst e
      exact l6_sheetG hl ⟨fun e => (by cases e), fun _ _ _ => l6_hourB c (br_t rfl q)⟩
    · exact l6_sheetB d ⟨fun _ => l6_hourB c (br_t rfl q), fun _ e => by cases e⟩
  obtain ⟨j, hj, e⟩ := c
  subst e
  by_cases c : ∃ k, k < 4 ∧ b = nI k
  rotate_left
  · exact same (D6 := d6_write (nI j) b) (D7 := d7_write (nI j) b) hT hC hM (a := -2) (fun Q q => l6_sheetB c ⟨fun _ => l6_isHour hj (br_f (by decide) q), fun _ e => by cases e⟩) (fun Q q => l7_hourG hj (br_f (by decide) (l7_sheetB c (bn_t rfl q))))
  obtain ⟨k, hk, e⟩ := c
  subst e
  have x := hC.1.2.2.2.2.1 k hk
  have z := hT.2.2.2.2.2.2.2 k hk
  by_cases A : tsf t k = -1
  · refine both (D6 := d6_write (nI j) (nI k)) (D7 := d7_write (nI j) (nI k)) (t' := tF t 1) (a := -10 - 1) hM (VT_tF hT) (fun Q hq => ?_) fun s1 Q p hq => ?_
    · refine l6_sheetG hk ⟨fun e => (by cases e), fun ob e hcl => l6_isHour hj (br_f (by decide) ?_)⟩
      cases e
      unfold d3_isLost
      rw [x.1]
      exact bn_t A (br_f (by decide) (c_find hC hq))
    · have y := p.2.2.2.1 k hk
      rw [if_pos A] at y
      refine l7_hourG hj (br_f (by decide) (l7_sheetG hk (bn_f (by decide) ⟨nin hk (by omega), ?_⟩)))
      rw [ncl (a := k) (by omega), y.1]
      exact bn_t rfl (m_find p hq)
  refine both (D6 := d6_write (nI j) (nI k)) (D7 := d7_write (nI j) (nI k)) (t' := tS t k (tsf t k) (tsz t k) (wrf (bt t) j (tsf t k) (tit t k) (wrn (tsz t k)))) (a := nI (wrn (tsz t k))) hM (VT_tS hT (hT.2.2.2.2.2.2.1 k hk) z) (fun Q hq => ?_) fun s1 Q p hq => ?_
  · refine l6_sheetG hk ⟨fun e => (by cases e), fun ob e hcl => l6_isHour hj (br_f (by decide) ?_)⟩
    cases e
    unfold d3_isLost
    rw [x.1]
    refine bn_f A (br_t rfl ?_)
    intro v13 e13
    rw [x.2.1, min12 z] at e13
    subst e13
    exact l6_chamberAsTold hT hC fun s' p n k5 => c_write hT p n hj hk fun s2 p2 k2 => hq s2 p2 ((kA5_R k5).tr k2)
  · have y := p.2.2.2.1 k hk
    rw [if_neg A] at y
    refine l7_hourG hj (br_f (by decide) (l7_sheetG hk (bn_f (by decide) ⟨nin hk (by omega), ?_⟩)))
    rw [ncl (a := k) (by omega), y.1]
    exact bn_f (by decide) (l7_runsTold hT p fun s' n _ p' k' => m_write hT p' n hj hk A fun s2 p2 k2 => hq s2 p2 (k'.tr k2))
