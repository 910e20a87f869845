-- read
def rd (z : Nat) (it : Nat → Int32) : Nat → Nat → Td → Nat × Td
  | 0, k, t => (k, t)
  | m + 1, k, t => if 3 * k + 2 < z ∧ evb (it (3 * k)) (it (3 * k + 1)) (it (3 * k + 2)) = true ∧ tne t < 8 then rd z it m (k + 1) (ev_t t (it (3 * k)) (it (3 * k + 1)) (it (3 * k + 2))) else (k, t)
set_option maxHeartbeats 4000000 in
theorem ev_tsz {t : Td} {a b c : Int32} : tsz (ev_t t a b c) = tsz t ∧ tit (ev_t t a b c) = tit t ∧ tsf (ev_t t a b c) = tsf t := by
  unfold ev_t
  split <;> exact ⟨rfl, rfl, rfl⟩
set_option maxHeartbeats 4000000 in
theorem rd_s (z : Nat) (it : Nat → Int32) (m k : Nat) (t : Td) : rd z it (m + 1) k t = if 3 * k + 2 < z ∧ evb (it (3 * k)) (it (3 * k + 1)) (it (3 * k + 2)) = true ∧ tne t < 8 then rd z it m (k + 1) (ev_t t (it (3 * k)) (it (3 * k + 1)) (it (3 * k + 2))) else (k, t) := rfl
set_option maxHeartbeats 4000000 in
theorem ev_r_t {t : Td} {a b c : Int32} (h : evb a b c = true ∧ tne t < 8) : ev_r t a b c = nI (tne t + 1) := by
  unfold ev_r; rw [if_pos h.1, if_pos h.2]
set_option maxHeartbeats 4000000 in
theorem ev_r_f {t : Td} {a b c : Int32} (h : ¬ (evb a b c = true ∧ tne t < 8)) : ev_t t a b c = t ∧ (ev_r t a b c = -4 ∨ ev_r t a b c = -2) := by
  unfold ev_t ev_r
  refine ⟨if_neg h, ?_⟩
  by_cases q : evb a b c = true
  · rw [if_pos q, if_neg (fun w => h ⟨q, w⟩)]; exact Or.inl rfl
  · rw [if_neg q]; exact Or.inr rfl
set_option maxHeartbeats 4000000 in
theorem VT_rd {z : Nat} {it : Nat → Int32} : ∀ m k t, VT t → VT (rd z it m k t).2 := by
  intro m
  induction m with
  | zero => intro k t h; exact h
  | succ m ih =>
    intro k t h
    rw [rd_s]
    split
    · exact ih _ _ (VT_ev h)
    · exact h
set_option maxHeartbeats 4000000 in
theorem l3_item {t : Td} {k j : Nat} {s : xSt} {Q : Int32 → xSt → Prop} (hT : VT t) (h : PC0 t s) (hk : k < 4) (hj : j < tsz t k) (hq : Q (tit t k j) s) : d3_item (9 + k) (nI j) s Q := by
  have x := h.2.2.2.2.1 k hk
  have z := hT.2.2.2.2.2.2.2 k hk
  unfold d3_item d3_hasItem
  rw [x.2.1]
  refine br_f (nI_pos (by omega)) (br_f (nle hj (by omega)) (br_f (nle (a := 60) (by omega) (by omega)) (br_f (by decide) ⟨nin (by omega) (by omega), ?_⟩)))
  rw [ncl (by omega), x.2.2 j hj]; exact hq
set_option maxHeartbeats 4000000 in
theorem c_readL {q z : Nat} {it : Nat → Int32} (hq4 : q < 4) : ∀ m k t s Q n, VT t → PC t s → tsz t q = z → tit t q = it → m + k = 21 → m < n → (∀ s', PC (rd z it m k t).2 s' → xk kR s s' → Q (nI (rd z it m k t).1) s') → d6_read_L31 (9 + q) (fun v20 s19 => Q v20 s19) Q n (nI k) (nI (3 * k)) s := by
  intro m
  induction m with
  | zero =>
    intro k t s Q n hT hC hz hi hm hn hq
    have z6 := hT.2.2.2.2.2.2.2 q hq4
    have x := hC.1.2.2.2.2.1 q hq4
    obtain ⟨n, rfl⟩ : ∃ n', n = n' + 1 := ⟨n - 1, by omega⟩
    rw [d6_read_L31, x.2.1, l_2, nI_add]
    exact br_t (nI_le (by omega) (by omega)) (hq s hC xk.rf)
  | succ m ih =>
    intro k t s Q n hT hC hz hi hm hn hq
    have z6 := hT.2.2.2.2.2.2.2 q hq4
    have x := hC.1.2.2.2.2.1 q hq4
    obtain ⟨n, rfl⟩ : ∃ n', n = n' + 1 := ⟨n - 1, by omega⟩
    rw [d6_read_L31, x.2.1, l_2, nI_add, nI_1]
    rw [rd_s] at hq
    by_cases c : 3 * k + 2 < z
    rotate_left
    · rw [if_neg (fun w => c w.1)] at hq
      exact br_t (nI_le (by omega) (by omega)) (hq s hC xk.rf)
    refine br_f (nle (by omega) (by omega)) (l3_item hT hC.1 hq4 (by omega) (l3_item hT hC.1 hq4 (by omega) (l3_item hT hC.1 hq4 (by omega) ?_)))
    rw [hi]
    refine c_ev hT hC fun s1 p1 k1 => ?_
    by_cases d : evb (it (3 * k)) (it (3 * k + 1)) (it (3 * k + 2)) = true ∧ tne t < 8
    · rw [if_pos ⟨c, d⟩] at hq
      rw [ev_r_t d]
      refine br_t (nI_pos' (by have := d.2; omega)) ?_
      intro v17 e17 v18 e18
      rw [nI_1] at e17
      rw [l_3, nI_add] at e18
      subst e17 e18
      exact ih (k + 1) _ s1 Q n (VT_ev hT) p1 (by rw [ev_tsz.1]; exact hz) (by rw [ev_tsz.2.1]; exact hi) (by omega) (by omega) (fun s' p' k' => hq s' p' (k1.tr k'))
    · rw [if_neg (fun w => d w.2)] at hq
      have r := ev_r_f d
      rw [r.1] at p1
      refine br_f ?_ (hq s1 p1 k1)
      rcases r.2 with w | w <;> rw [w] <;> decide
