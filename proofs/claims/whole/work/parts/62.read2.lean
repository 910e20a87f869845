set_option maxHeartbeats 4000000 in
theorem m_readL {q z : Nat} {it : Nat → Int32} (hq4 : q < 4) : ∀ m k t s Q n, VT t → PM t s → ¬ tsf t q = -1 → tsz t q = z → tit t q = it → m + k = 21 → m < n → (∀ s', PM (rd z it m k t).2 s' → xk kS s s' → Q (nI (rd z it m k t).1) s') → d7_read_L32 (nI q) (nI (60 * q)) (fun v17 s16 => Q v17 s16) Q n (nI k) s := by
  intro m
  induction m with
  | zero =>
    intro k t s Q n hT hC hf hz hi hm hn hq
    have z6 := hT.2.2.2.2.2.2.2 q hq4
    have y := hC.2.2.2.1 q hq4
    obtain ⟨n, rfl⟩ : ∃ n', n = n' + 1 := ⟨n - 1, by omega⟩
    rw [d7_read_L32, ncl (a := q) (by omega), y.2.2.1 hf, show (3 : Int32) * nI k + 2 = nI (3 * k + 2) by rw [l_3, pk_mul, l_2, nI_add]]
    exact ⟨nin hq4 (by omega), br_t (nI_le (by omega) (by omega)) (hq s hC xk.rf)⟩
  | succ m ih =>
    intro k t s Q n hT hC hf hz hi hm hn hq
    have z6 := hT.2.2.2.2.2.2.2 q hq4
    have y := hC.2.2.2.1 q hq4
    obtain ⟨n, rfl⟩ : ∃ n', n = n' + 1 := ⟨n - 1, by omega⟩
    rw [rd_s] at hq
    rw [d7_read_L32, ncl (a := q) (by omega), y.2.2.1 hf, show (3 : Int32) * nI k = nI (3 * k) by rw [l_3, pk_mul], l_2, nI_add, nI_add, nI_1, nI_add]
    refine ⟨nin hq4 (by omega), ?_⟩
    by_cases c : 3 * k + 2 < z
    rotate_left
    · rw [if_neg (fun w => c w.1)] at hq
      exact br_t (nI_le (by omega) (by omega)) (hq s hC xk.rf)
    refine br_f (nle (by omega) (by omega)) ⟨nin (by omega) (by omega), nin (by omega) (by omega), nin (by omega) (by omega), ?_⟩
    rw [ncl (by omega), ncl (by omega), ncl (by omega), Nat.add_assoc (60 * q) (3 * k) 1, Nat.add_assoc (60 * q) (3 * k) 2, y.2.2.2 hf _ (by omega), y.2.2.2 hf _ (by omega), y.2.2.2 hf _ (by omega), hi]
    refine m_ev hT hC fun s1 p1 k1 => ?_
    by_cases d : evb (it (3 * k)) (it (3 * k + 1)) (it (3 * k + 2)) = true ∧ tne t < 8
    · rw [if_pos ⟨c, d⟩] at hq
      rw [ev_r_t d]
      refine br_f (nI_nle (by omega) (by have := d.2; omega)) ?_
      intro v15 e15
      rw [nI_1] at e15
      subst e15
      exact ih (k + 1) _ s1 Q n (VT_ev hT) p1 (by rw [ev_tsz.2.2]; exact hf) (by rw [ev_tsz.1]; exact hz) (by rw [ev_tsz.2.1]; exact hi) (by omega) (by omega) (fun s' p' k' => hq s' p' (k1.tr k'))
    · rw [if_neg (fun w => d w.2)] at hq
      have r := ev_r_f d
      rw [r.1] at p1
      refine br_t ?_ (hq s1 p1 k1)
      rcases r.2 with w | w <;> rw [w] <;> decide
set_option maxHeartbeats 4000000 in
theorem q_read {a : Int32} {σ : xSt} (h : RR σ) : d6_read a σ (fun r s1 => d7_read a s1 (fun r' s2 => r = r' ∧ RR s2)) := by
  obtain ⟨t, hT, hC, hM⟩ := h
  by_cases c : ∃ j, j < 4 ∧ a = nI j
  rotate_left
  · exact same (D6 := d6_read a) (D7 := d7_read a) hT hC hM (a := -2) (fun Q q => l6_sheetB c ⟨fun _ => q, fun ob e => by cases e⟩) (fun Q q => l7_sheetB c (bn_t rfl q))
  obtain ⟨k, hk, e⟩ := c
  subst e
  have x := hC.1.2.2.2.2.1 k hk
  by_cases z : tsf t k = -1
  · refine both (D6 := d6_read (nI k)) (D7 := d7_read (nI k)) (t' := tF t 1) (a := -10 - 1) hM (VT_tF hT) (fun Q hq => ?_) fun s1 Q p hq => ?_
    · refine l6_sheetG hk ⟨fun e => (by cases e), fun ob e hcl => ?_⟩
      cases e
      unfold d3_isLost
      rw [x.1]
      exact bn_t z (br_f (by decide) (c_find hC hq))
    · have y := p.2.2.2.1 k hk
      rw [if_pos z] at y
      refine l7_sheetG hk (bn_f (by decide) ⟨nin hk (by omega), ?_⟩)
      rw [ncl (by omega), y.1]
      exact bn_t rfl (m_find p hq)
  · refine both (D6 := d6_read (nI k)) (D7 := d7_read (nI k)) (t' := (rd (tsz t k) (tit t k) 21 0 t).2) (a := nI (rd (tsz t k) (tit t k) 21 0 t).1) hM (VT_rd 21 0 t hT) (fun Q hq => ?_) fun s1 Q p hq => ?_
    · refine l6_sheetG hk ⟨fun e => (by cases e), fun ob e hcl => ?_⟩
      cases e
      unfold d3_isLost
      rw [x.1]
      exact bn_f z (br_t rfl (c_readL hk 21 0 t σ Q x_lim hT hC rfl rfl (by omega) (by show 21 < 1000; omega) hq))
    · have y := p.2.2.2.1 k hk
      rw [if_neg z] at y
      refine l7_sheetG hk (bn_f (by decide) ⟨nin hk (by omega), ?_⟩)
      rw [ncl (by omega), y.1]
      refine bn_f (by decide) ?_
      intro v6 e6
      rw [show (60 : Int32) * nI k = nI (60 * k) from pk_mul 60 k] at e6
      subst e6
      exact m_readL hk 21 0 t s1 Q x_lim hT p z rfl rfl (by omega) (by show 21 < 1000; omega) hq
