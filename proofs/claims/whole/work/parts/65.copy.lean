-- copy
set_option maxHeartbeats 4000000 in
theorem l3_hasRun {o sz : Nat} {a n : Int32} {s : xSt} {Q : Int32 → xSt → Prop} (hz : xI s o 2 = nI sz) (hs : sz ≤ 60) (q1 : ∀ i m, a = nI i → n = nI m → i + m ≤ sz → Q 1 s) (q0 : (¬ ∃ i m, a = nI i ∧ n = nI m ∧ i + m ≤ sz) → Q 0 s) : d3_hasRun o a n s Q := by
  unfold d3_hasRun
  rw [hz]
  refine ⟨fun c => q0 ?_, fun c => ⟨fun d => q0 ?_, fun d => ?_⟩⟩
  · rintro ⟨i, m, e1, e2, h⟩
    subst e1
    exact absurd c (nI_pos (by omega))
  · rintro ⟨i, m, e1, e2, h⟩
    subst e2
    exact absurd d (nI_pos (by omega))
  obtain ⟨i, hi, e1⟩ := nI_of c
  obtain ⟨m, hm, e2⟩ := nI_of d
  subst e1 e2
  have u : i + m ≤ sz ∨ ¬ ∃ i' m', nI i = nI i' ∧ nI m = nI m' ∧ i' + m' ≤ sz := by
    by_cases g : i + m ≤ sz
    · exact Or.inl g
    · refine Or.inr ?_
      rintro ⟨i', m', e1, e2, h⟩
      have a1 := (nI_eq hi (by omega)).mp e1
      have a2 := (nI_eq hm (by omega)).mp e2
      omega
  by_cases g : i ≤ sz
  · refine br_f (nlt g (by omega)) ?_
    rw [pk_sub g]
    by_cases w : m ≤ sz - i
    · exact br_f (nlt w (by omega)) (q1 i m rfl rfl (by omega))
    · exact br_t (nI_lt (by omega) hm) (q0 (u.resolve_left (by omega)))
  · exact br_t (nI_lt (by omega) hi) (q0 (u.resolve_left (by omega)))
set_option maxHeartbeats 4000000 in
theorem lg_sum {i m sz : Nat} (hi : i < 2147483648) (hm : m < 2147483648) (hs : sz < 2147483648) : lN sz < (nI i).toInt64 + (nI m).toInt64 ↔ sz < i + m := by
  rw [nI_l hi, nI_l hm, lN_add]
  exact pk_lLT (by omega) (by omega)
set_option maxHeartbeats 4000000 in
theorem lg_sumL {i m sz : Nat} (hi : i < 2147483648) (hm : m < 2147483648) (hs : sz < 2147483648) : (nI i).toInt64 + (nI m).toInt64 ≤ lN sz ↔ i + m ≤ sz := by
  rw [nI_l hi, nI_l hm, lN_add]
  exact pk_lLE (by omega) (by omega)
set_option maxHeartbeats 4000000 in
theorem m_items {t : Td} {l : Nat} {it' : Nat → Int32} {s s1 : xSt} (h : PM t s) (x : xk (fun t o c => !(o == 13 && t == 1 && (c == 39 || c == 40))) s s1) (g : ∀ q, q < 4 → ¬ tsf t q = -1 → ∀ p, p < tsz t q → xA s1 13 39 (60 * q + p) = (if q = l then it' else tit t q) p) : PM (tS t l (tsf t l) (tsz t l) it') s1 := by
  obtain ⟨g1, g3, g4, g5, g6⟩ := h
  refine ⟨g1.keep x rfl rfl, ⟨by rw [x.1 13 8 rfl]; exact g3.1, by rw [x.2.1 13 9 rfl, x.2.1 13 10 rfl, x.2.1 13 11 rfl]; exact g3.2⟩, ⟨by rw [x.1 13 31 rfl]; exact g4.1, by rw [x.2.1 13 32 rfl, x.2.1 13 33 rfl, x.2.1 13 34 rfl]; exact g4.2⟩, fun q hq => ?_, by rw [x.1 13 41 rfl]; exact g6⟩
  have y := g5 q hq
  have ef : (if q = l then tsf t l else tsf t q) = tsf t q := by
    by_cases c : q = l
    · rw [if_pos c, c]
    · rw [if_neg c]
  have ez : (if q = l then tsz t l else tsz t q) = tsz t q := by
    by_cases c : q = l
    · rw [if_pos c, c]
    · rw [if_neg c]
  show xA s1 13 36 q = (if (if q = l then tsf t l else tsf t q) = -1 then 0 else 1) ∧ (¬ (if q = l then tsf t l else tsf t q) = -1 → xA s1 13 37 q = (if q = l then tsf t l else tsf t q)) ∧ (¬ (if q = l then tsf t l else tsf t q) = -1 → xA s1 13 38 q = nI (if q = l then tsz t l else tsz t q)) ∧ (¬ (if q = l then tsf t l else tsf t q) = -1 → ∀ i, i < (if q = l then tsz t l else tsz t q) → xA s1 13 39 (60 * q + i) = (if q = l then it' else tit t q) i)
  rw [ef, ez, x.2.1 13 36 rfl, x.2.1 13 37 rfl, x.2.1 13 38 rfl]
  exact ⟨y.1, y.2.1, y.2.2.1, fun A i hi => g q hq A i hi⟩
set_option maxHeartbeats 4000000 in
theorem c_take {t : Td} {k l i j n : Nat} {s : xSt} {Q : xSt → Prop} (hT : VT t) (h : PC t s) (hk : k < 4) (hl : l < 4) (hi : i + n ≤ tsz t k) (hj : j + n ≤ tsz t l) (hq : ∀ s', PC (tS t l (tsf t l) (tsz t l) (va_cpy (tit t k) (tit t l) i j n)) s' → xk kR s s' → Q s') : d3_takeRun (9 + l) (9 + k) (nI i) (nI j) (nI n) s Q := by
  have zk := hT.2.2.2.2.2.2.2 k hk
  have zl := hT.2.2.2.2.2.2.2 l hl
  have xK := h.1.2.2.2.2.1 k hk
  have xL := h.1.2.2.2.2.1 l hl
  unfold d3_takeRun
  refine l3_hasRun xK.2.1 zk (fun _ _ _ _ _ => br_f (by decide) ?_) (fun c => absurd ⟨i, n, rfl, rfl, hi⟩ c)
  refine l3_hasRun xL.2.1 zl (fun _ _ _ _ _ => br_f (by decide) ?_) (fun c => absurd ⟨j, n, rfl, rfl, hj⟩ c)
  rw [ncl (a := i) (by omega), ncl (a := j) (by omega), ncl (a := n) (by omega)]
  refine ⟨⟨nI_pos (by omega), nI_pos (by omega), nI_pos (by omega), by omega, by omega⟩, ?_⟩
  intro s8 e8
  have F : ∀ a c, kO l a (9 + l) c = false := fun a c => by simp [kO]
  have g := c_sheet (k := l) (fm := tsf t l) (sz := tsz t l) (it := va_cpy (tit t k) (tit t l) i j n) (s1 := s8) h hl (by subst e8; exact xk.rf.sA (F _ _)) (by subst e8; exact xL.1) (by subst e8; exact xL.2.1) (fun q hq => by
    subst e8
    rw [xA_xsA_eq]
    by_cases c : j ≤ q ∧ q < j + n
    · rw [pk_cpy_in c.1 c.2, pk_cpy_in c.1 c.2]; exact xK.2.2 _ (by omega)
    · rw [pk_cpy_out (by omega), pk_cpy_out (by omega)]; exact xL.2.2 q hq)
  exact hq s8 g.1 g.2
def kcp (t o c : Nat) : Bool := !(o == 13 && t == 1 && (c == 39 || c == 40))
set_option maxHeartbeats 4000000 in
theorem m_take {t : Td} {k l i j n : Nat} {s : xSt} {K : xSt → Prop} {Q : Int32 → xSt → Prop} (hT : VT t) (h : PM t s) (hk : k < 4) (hl : l < 4) (hi : i + n ≤ tsz t k) (hj : j + n ≤ tsz t l) (A : ¬ tsf t k = -1) (hq : ∀ s', PM (tS t l (tsf t l) (tsz t l) (va_cpy (tit t k) (tit t l) i j n)) s' → xk kS s s' → K s') : d7_copy_L120 (nI k) (nI i) (nI l) (nI j) (nI n) (fun s36 => d7_copy_L157 (nI l) (nI j) (nI n) K Q x_lim 0 s36) Q x_lim 0 s := by
  have zk := hT.2.2.2.2.2.2.2 k hk
  have zl := hT.2.2.2.2.2.2.2 l hl
  have e1 : ∀ p, (60 : Int32) * nI k + nI i + nI p = nI (60 * k + i + p) := fun p => by rw [show (60 : Int32) = nI 60 from rfl, pk_mul, nI_add, nI_add]
  have e2 : ∀ p, (60 : Int32) * nI l + nI j + nI p = nI (60 * l + j + p) := fun p => by rw [show (60 : Int32) = nI 60 from rfl, pk_mul, nI_add, nI_add]
  refine lp0 (fun m p s3 => d7_copy_L120 (nI k) (nI i) (nI l) (nI j) (nI n) _ Q m (nI p) s3) (fun p s3 => (∀ q, q < p → xA s3 13 40 q = xA s 13 39 (60 * k + i + q)) ∧ xA s3 13 39 = xA s 13 39 ∧ xk kcp s s3) n (by omega) ?_ ?_ s ⟨fun _ q => by omega, rfl, xk.rf⟩
  rotate_left
  · intro m p s3 hp ⟨g1, g2, g3⟩ ih
    rw [d7_copy_L120, e1, ncl (a := p) (by omega), ncl (a := 60 * k + i + p) (by omega), g2]
    refine br_f (nle hp (by omega)) ⟨nin (by omega) (by omega), nin (by omega) (by omega), ?_⟩
    intro s34 e34 v35 e35
    rw [nI_1] at e35
    subst e34 e35
    refine ih _ ⟨fun q hq => ?_, by rw [xA_xuA_ne (by decide)]; exact g2, g3.uA rfl⟩
    rw [xA_xuA_eq, upd_ap]
    by_cases c : q = p
    · rw [if_pos c, c]
    · rw [if_neg c]; exact g1 q (by omega)
  intro m s3 ⟨g1, g2, g3⟩
  rw [d7_copy_L120]
  refine br_t (Int32.le_refl _) ?_
  clear m
  refine lp0 (fun m p s4 => d7_copy_L157 (nI l) (nI j) (nI n) K Q m (nI p) s4) (fun p s4 => (∀ q, xA s4 13 39 q = if 60 * l + j ≤ q ∧ q < 60 * l + j + p then xA s 13 39 (60 * k + i + (q - (60 * l + j))) else xA s 13 39 q) ∧ xA s4 13 40 = xA s3 13 40 ∧ xk kcp s s4) n (by omega) ?_ ?_ s3 ⟨fun q => by rw [g2, if_neg (by omega)], rfl, g3⟩
  · intro m s4 ⟨f1, f2, f3⟩
    rw [d7_copy_L157]
    refine br_t (Int32.le_refl _) (hq s4 (m_items h f3 fun q h4 B p hp => ?_) (f3.mono fun a o c q => ?_))
    · have zq := hT.2.2.2.2.2.2.2 q h4
      rw [f1]
      by_cases c : q = l
      · subst c
        rw [if_pos rfl]
        by_cases d : j ≤ p ∧ p < j + n
        · rw [if_pos (by omega), pk_cpy_in d.1 d.2, show 60 * k + i + (60 * q + p - (60 * q + j)) = 60 * k + (i + (p - j)) by omega]
          exact (h.2.2.2.1 k hk).2.2.2 A _ (by omega)
        · rw [if_neg (by omega), pk_cpy_out (by omega)]
          exact (h.2.2.2.1 q h4).2.2.2 B p hp
      · rw [if_neg c, if_neg (by omega)]
        exact (h.2.2.2.1 q h4).2.2.2 B p hp
    · simp only [kS, kcp, Bool.not_eq_true', Bool.and_eq_false_iff, beq_eq_false_iff_ne] at q ⊢
      exact Or.inl (Or.inl q)
  · intro m p s4 hp ⟨f1, f2, f3⟩ ih
    rw [d7_copy_L157, e2, ncl (a := p) (by omega), ncl (a := 60 * l + j + p) (by omega), f2, g1 p hp]
    refine br_f (nle hp (by omega)) ⟨nin (by omega) (by omega), nin (by omega) (by omega), ?_⟩
    intro s40 e40 v41 e41
    rw [nI_1] at e41
    subst e40 e41
    refine ih _ ⟨fun q => ?_, by rw [xA_xuA_ne (by decide)]; exact f2, f3.uA rfl⟩
    rw [xA_xuA_eq, upd_ap]
    by_cases c : q = 60 * l + j + p
    · rw [if_pos c, if_pos (by omega), show q - (60 * l + j) = p by omega]
    · rw [if_neg c, f1 q]
      by_cases d : 60 * l + j ≤ q ∧ q < 60 * l + j + p
      · rw [if_pos d, if_pos (by omega)]
      · rw [if_neg d, if_neg (by omega)]
set_option maxHeartbeats 4000000 in
theorem q_copy {a i b j n : Int32} {σ : xSt} (h : RR σ) : d6_copy a i b j n σ (fun r s1 => d7_copy a i b j n s1 (fun r' s2 => r = r' ∧ RR s2)) := by
  obtain ⟨t, hT, hC, hM⟩ := h
  by_cases c : ∃ k, k < 4 ∧ a = nI k
  rotate_left
  · exact same (D6 := d6_copy a i b j n) (D7 := d7_copy a i b j n) hT hC hM (a := -2) (fun Q q => l6_sheetB c ⟨fun _ => by
      by_cases d : ∃ k, k < 4 ∧ b = nI k
      · obtain ⟨l, hl, e⟩ := d
        subst e
        exact l6_sheetG hl ⟨fun e => (by cases e), fun _ _ _ => q⟩
      · exact l6_sheetB d ⟨fun _ => q, fun _ e => by cases e⟩, fun ob e => by cases e⟩) (fun Q q => l7_sheetB c (br_t rfl q))
  obtain ⟨k, hk, e⟩ := c
  subst e
  by_cases c : ∃ k, k < 4 ∧ b = nI k
  rotate_left
  · exact same (D6 := d6_copy (nI k) i b j n) (D7 := d7_copy (nI k) i b j n) hT hC hM (a := -2) (fun Q q => l6_sheetG hk ⟨fun e => (by cases e), fun ob e hcl => l6_sheetB c ⟨fun _ => q, fun _ e => by cases e⟩⟩) (fun Q q => l7_sheetG hk (br_f (by decide) (l7_sheetB c (bn_t rfl q))))
  obtain ⟨l, hl, e⟩ := c
  subst e
  have xK := hC.1.2.2.2.2.1 k hk
  have xL := hC.1.2.2.2.2.1 l hl
  have zk := hT.2.2.2.2.2.2.2 k hk
  have zl := hT.2.2.2.2.2.2.2 l hl
  by_cases A : tsf t k = -1
  · refine both (D6 := d6_copy (nI k) i (nI l) j n) (D7 := d7_copy (nI k) i (nI l) j n) (t' := tF t 1) (a := -10 - 1) hM (VT_tF hT) (fun Q hq => ?_) fun s1 Q p hq => ?_
    · refine l6_sheetG hk ⟨fun e => (by cases e), fun ob e hcl => l6_sheetG hl ⟨fun e => (by cases e), fun ob2 e2 hcl2 => ?_⟩⟩
      cases e; cases e2
      unfold d3_isLost
      rw [xK.1]
      exact bn_t A (bn_f (by decide) (c_find hC hq))
    · have y := p.2.2.2.1 k hk
      rw [if_pos A] at y
      refine l7_sheetG hk (br_f (by decide) (l7_sheetG hl (bn_f (by decide) ⟨nin hk (by omega), ?_⟩)))
      rw [ncl (a := k) (by omega), y.1]
      exact br_t rfl (m_find p hq)
  by_cases B : tsf t l = -1
  · refine both (D6 := d6_copy (nI k) i (nI l) j n) (D7 := d7_copy (nI k) i (nI l) j n) (t' := tF t 1) (a := -10 - 1) hM (VT_tF hT) (fun Q hq => ?_) fun s1 Q p hq => ?_
    · refine l6_sheetG hk ⟨fun e => (by cases e), fun ob e hcl => l6_sheetG hl ⟨fun e => (by cases e), fun ob2 e2 hcl2 => ?_⟩⟩
      cases e; cases e2
      unfold d3_isLost
      dsimp only
      rw [xK.1, xL.1]
      exact bn_f A (bn_t rfl (bn_t B (br_f (by decide) (c_find hC hq))))
    · have y := p.2.2.2.1 k hk
      have y2 := p.2.2.2.1 l hl
      rw [if_neg A] at y
      rw [if_pos B] at y2
      refine l7_sheetG hk (br_f (by decide) (l7_sheetG hl (bn_f (by decide) ⟨nin hk (by omega), ?_⟩)))
      rw [ncl (a := k) (by omega), ncl (a := l) (by omega), y.1, y2.1]
      exact br_f (by decide) ⟨nin hl (by omega), bn_t rfl (m_find p hq)⟩
  have start6 : ∀ Q : Int32 → xSt → Prop, (tsf t k = tsf t l → d3_hasRun (9 + k) i n σ (fun v20 s19 => (v20 = 0 → d6_finding 2 s19 (fun v23 s22 => Q v23 s22)) ∧ (¬ v20 = 0 → d3_hasRun (9 + l) j n s19 (fun v25 s24 => (¬ v25 = 0 → d3_takeRun (9 + l) (9 + k) i j n s24 (fun s27 => Q 1 s27)) ∧ (v25 = 0 → d6_finding 2 s24 (fun v29 s28 => Q v29 s28)))))) ∧ (¬ tsf t k = tsf t l → d6_finding 4 σ (fun v31 s30 => Q v31 s30)) → d6_copy (nI k) i (nI l) j n σ Q := fun Q g => l6_sheetG hk ⟨fun e => (by cases e), fun ob e hcl => l6_sheetG hl ⟨fun e => (by cases e), fun ob2 e2 hcl2 => by
    cases e; cases e2
    unfold d3_isLost
    dsimp only
    rw [xK.1, xL.1]
    exact bn_f A (bn_t rfl (bn_f B (br_t rfl g)))⟩⟩
  have start7 : ∀ (s1 : xSt) (Q : Int32 → xSt → Prop), PM t s1 → (tsf t k = tsf t l → (i < 0 → d7_meets 2 s1 (fun v18 s17 => Q v18 s17)) ∧ (¬ i < 0 → (j < 0 → d7_meets 2 s1 (fun v21 s20 => Q v21 s20)) ∧ (¬ j < 0 → (n < 0 → d7_meets 2 s1 (fun v24 s23 => Q v24 s23)) ∧ (¬ n < 0 → vp_in (nI k) 4 ∧ (0 < (lg_cmp (i.toInt64 + n.toInt64) (lN (tsz t k))) → d7_meets 2 s1 (fun v28 s27 => Q v28 s27)) ∧ (¬ 0 < (lg_cmp (i.toInt64 + n.toInt64) (lN (tsz t k))) → vp_in (nI l) 4 ∧ ((lg_cmp (j.toInt64 + n.toInt64) (lN (tsz t l))) ≤ 0 → d7_copy_L120 (nI k) i (nI l) j n (fun (s36 : xSt) => d7_copy_L157 (nI l) j n (fun (s42 : xSt) => Q 1 s42) Q x_lim 0 s36) Q x_lim 0 s1) ∧ (¬ (lg_cmp (j.toInt64 + n.toInt64) (lN (tsz t l))) ≤ 0 → d7_meets 2 s1 (fun v44 s43 => Q v44 s43))))))) ∧ (¬ tsf t k = tsf t l → d7_meets 4 s1 (fun v46 s45 => Q v46 s45)) → d7_copy (nI k) i (nI l) j n s1 Q := fun s1 Q p g => by
    have y := p.2.2.2.1 k hk
    have y2 := p.2.2.2.1 l hl
    rw [if_neg A] at y
    rw [if_neg B] at y2
    refine l7_sheetG hk (br_f (by decide) (l7_sheetG hl (bn_f (by decide) ⟨nin hk (by omega), ?_⟩)))
    rw [ncl (a := k) (by omega), ncl (a := l) (by omega), y.1, y2.1, y.2.1 A, y2.2.1 B, y.2.2.1 A, y2.2.2.1 B, nI_l (show tsz t k < 2147483648 by omega), nI_l (show tsz t l < 2147483648 by omega)]
    exact br_f (by decide) ⟨nin hl (by omega), bn_f (by decide) ⟨nin hk (by omega), nin hl (by omega), g⟩⟩
  by_cases F : tsf t k = tsf t l
  rotate_left
  · exact both (D6 := d6_copy (nI k) i (nI l) j n) (D7 := d7_copy (nI k) i (nI l) j n) (t' := tF t 4) (a := -10 - 4) hM (VT_tF hT) (fun Q hq => start6 Q (br_f F (c_find hC hq))) fun s1 Q p hq => start7 s1 Q p (br_f F (m_find p hq))
  by_cases G : ∃ i' j' n', i = nI i' ∧ j = nI j' ∧ n = nI n' ∧ i' + n' ≤ tsz t k ∧ j' + n' ≤ tsz t l
  rotate_left
  · refine both (D6 := d6_copy (nI k) i (nI l) j n) (D7 := d7_copy (nI k) i (nI l) j n) (t' := tF t 2) (a := -10 - 2) hM (VT_tF hT) (fun Q hq => start6 Q (br_t F (l3_hasRun xK.2.1 zk (fun i2 m2 e1 e2 h2 => br_f (by decide) (l3_hasRun xL.2.1 zl (fun j2 m3 e3 e4 h3 => ?_) fun _ => bn_t rfl (c_find hC hq))) fun _ => br_t rfl (c_find hC hq)))) fun s1 Q p hq => ?_
    · have e5 : m2 = m3 := (nI_eq (by omega) (by omega)).mp (e2.symm.trans e4)
      subst e5
      exact absurd ⟨i2, j2, m2, e1, e3, e2, h2, h3⟩ G
    · have m2 := m_find (v := 2) (Q := Q) p hq
      refine start7 s1 Q p (br_t F ⟨fun _ => m2, fun c1 => ⟨fun _ => m2, fun c2 => ⟨fun _ => m2, fun c3 => ⟨nin hk (by omega), fun _ => m2, fun c4 => ⟨nin hl (by omega), fun c5 => ?_, fun _ => m2⟩⟩⟩⟩⟩)
      obtain ⟨i', hi', e1⟩ := nI_of c1
      obtain ⟨j', hj', e2⟩ := nI_of c2
      obtain ⟨n', hn', e3⟩ := nI_of c3
      subst e1 e2 e3
      rw [lg_cmp_gt, lg_sum hi' hn' (by omega)] at c4
      rw [lg_cmp_le, lg_sumL hj' hn' (by omega)] at c5
      exact absurd ⟨i', j', n', rfl, rfl, rfl, by omega, c5⟩ G
  obtain ⟨i', j', n', e1, e2, e3, hi, hj⟩ := G
  subst e1 e2 e3
  refine both (D6 := d6_copy (nI k) (nI i') (nI l) (nI j') (nI n')) (D7 := d7_copy (nI k) (nI i') (nI l) (nI j') (nI n')) (t' := tS t l (tsf t l) (tsz t l) (va_cpy (tit t k) (tit t l) i' j' n')) (a := 1) hM (VT_tS hT (hT.2.2.2.2.2.2.1 l hl) zl) (fun Q hq => start6 Q (br_t F (l3_hasRun xK.2.1 zk (fun _ _ _ _ _ => br_f (by decide) (l3_hasRun xL.2.1 zl (fun _ _ _ _ _ => bn_f (by decide) (c_take hT hC hk hl hi hj hq)) fun c => absurd ⟨j', n', rfl, rfl, hj⟩ c)) fun c => absurd ⟨i', n', rfl, rfl, hi⟩ c))) fun s1 Q p hq => ?_
  refine start7 s1 Q p (br_t F (br_f (nI_pos (by omega)) (br_f (nI_pos (by omega)) (br_f (nI_pos (by omega)) ⟨nin hk (by omega), br_f ?_ ⟨nin hl (by omega), br_t ?_ (m_take hT p hk hl hi hj A hq)⟩⟩))))
  · rw [lg_cmp_gt, lg_sum (by omega) (by omega) (by omega)]; omega
  · rw [lg_cmp_le, lg_sumL (by omega) (by omega) (by omega)]; exact hj
