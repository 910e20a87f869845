-- crowd
def hd (b : Bl) (i : Nat) : Nat := s_heads b (s_run b (i / 12 + 1)) (i % 12)
def cr (b : Bl) : Nat → Nat × Nat
  | 0 => (0, 0)
  | i + 1 => if (cr b i).2 < hd b i then (i, hd b i) else cr b i
set_option maxHeartbeats 4000000 in
theorem hd_le {b : Bl} (hb : VB b) (i : Nat) : hd b i ≤ 8 := Nat.le_trans (heads_le b _ _ _) hb.1
set_option maxHeartbeats 4000000 in
theorem cr_le {b : Bl} (hb : VB b) : ∀ i, (cr b i).1 ≤ i ∧ (cr b i).2 ≤ 8 := by
  intro i
  induction i with
  | zero => exact ⟨Nat.le_refl 0, Nat.zero_le 8⟩
  | succ i ih =>
    have := hd_le hb i
    unfold cr
    split
    · exact ⟨by show i ≤ i + 1; omega, this⟩
    · exact ⟨by omega, ih.2⟩
def k8 (_t o _k : Nat) : Bool := !(o == 8)
/-- best so far in the class -/
def CB (b : Bl) (i : Nat) (s : xSt) : Prop := (i = 0 → xI s 8 0 = -1 ∧ xI s 8 1 = -1) ∧ (0 < i → xI s 8 0 = nI (cr b i).1 ∧ xI s 8 1 = nI (cr b i).2)
set_option maxHeartbeats 4000000 in
theorem l0_offer {a x : Int32} {s : xSt} {Q : xSt → Prop} (q1 : x ≤ xI s 8 1 → Q s) (q2 : ¬ x ≤ xI s 8 1 → ∀ s', xI s' 8 0 = a → xI s' 8 1 = x → xk k8 s s' → Q s') : d0_offer a x s Q := by
  unfold d0_offer
  refine ⟨q1, fun z => ?_⟩
  intro s2 e2 s3 e3
  refine q2 z s3 ?_ ?_ ?_
  · subst e3 e2; rw [xI_xsI_ne (by decide), xI_xsI_eq]
  · subst e3; exact xI_xsI_eq _ _ _ _
  · subst e3 e2; exact (xk.rf.sI rfl).sI rfl
set_option maxHeartbeats 4000000 in
theorem l0_start {s : xSt} {Q : xSt → Prop} (hq : ∀ s', xI s' 8 0 = -1 → xI s' 8 1 = -1 → xk k8 s s' → Q s') : d0_start s Q := by
  unfold d0_start
  intro s1 e1 s2 e2
  refine hq s2 ?_ ?_ ?_
  · subst e2 e1; rw [xI_xsI_ne (by decide), xI_xsI_eq]
  · subst e2; exact xI_xsI_eq _ _ _ _
  · subst e2 e1; exact (xk.rf.sI rfl).sI rfl
set_option maxHeartbeats 4000000 in
theorem CB_offer {b : Bl} {i : Nat} {s : xSt} {Q : xSt → Prop} (hb : VB b) (hi : i < 1000) (h : CB b i s) (hq : ∀ s', CB b (i + 1) s' → xk k8 s s' → Q s') : d0_offer (nI i) (nI (hd b i)) s Q := by
  have l1 := hd_le hb i
  have l2 := (cr_le hb i).2
  have e : cr b (i + 1) = if (cr b i).2 < hd b i then (i, hd b i) else cr b i := rfl
  rcases Nat.eq_zero_or_pos i with z | z
  · refine l0_offer (fun q => ?_) (fun q s' g0 g1 k => hq s' ⟨fun w => by omega, fun _ => ?_⟩ k)
    · rw [(h.1 z).2] at q
      exact absurd q (Int32.not_le.mpr (Int32.lt_of_lt_of_le (by decide) (nI_pos' (by omega))))
    · subst z
      rw [g0, g1, e]
      split
      · exact ⟨rfl, rfl⟩
      · rename_i w
        have w : ¬ 0 < hd b 0 := w
        rw [show hd b 0 = 0 by omega]
        exact ⟨rfl, rfl⟩
  · have g := h.2 z
    refine l0_offer (fun q => hq s ⟨fun w => by omega, fun _ => ?_⟩ xk.rf) (fun q s' g0 g1 k => hq s' ⟨fun w => by omega, fun _ => ?_⟩ k)
    · rw [g.2] at q
      rw [e, if_neg (fun w => nle w (by omega) q)]
      exact g
    · rw [g.2] at q
      rw [e, if_pos (Nat.not_le.mp fun w => q (nI_le w (by omega)))]
      exact ⟨g0, g1⟩
set_option maxHeartbeats 4000000 in
theorem l2_headsAt {c h p : Nat} {b : Bl} {s : xSt} {Q : Int32 → xSt → Prop} (n2 : N2 c b 20 s) (hh : h < 20) (hp : p < 12) (hq : Q (nI (s_heads b (s_run b (h + 1)) p)) s) : d2_headsAt c (nI h) (nI p) s Q := by
  refine l6_isHour hh (br_f (by decide) (l6_isPlace hp (br_f (by decide) ⟨nin hh (by omega), nin hp (by omega), ?_⟩)))
  rw [ncl (a := h) (by omega), ncl (a := p) (by omega), (n2.2 h hh).2.1 p hp]; exact hq
set_option maxHeartbeats 4000000 in
theorem l6_findCrowd {b : Bl} {s : xSt} {Q : xSt → Prop} (hb : VB b) (n2 : N2 5 b 20 s) (hq : ∀ s', CB b 240 s' → xk k8 s s' → Q s') : d6_findCrowd 5 s Q := by
  unfold d6_findCrowd
  refine l0_start fun s1 g0 g1 k1 => ?_
  refine lp0 (fun n i s2 => d6_findCrowd_L14 5 (fun s10 => Q s10) Q n (nI i) s2) (fun i s2 => CB b (12 * i) s2 ∧ xk k8 s s2) 20 (by omega) ?_ ?_ s1 ⟨⟨fun _ => ⟨g0, g1⟩, fun w => by omega⟩, k1⟩
  · intro n s2 ⟨h1, h2⟩
    rw [d6_findCrowd_L14]
    exact br_t (Int32.le_refl _) (hq s2 h1 h2)
  · intro n i s2 hi ⟨h1, h2⟩ ih
    rw [d6_findCrowd_L14]
    refine br_f (nle (a := 20) hi (by omega)) ?_
    refine lp0 (fun m j s3 => d6_findCrowd_L22 5 (nI i) _ Q m (nI j) s3) (fun j s3 => CB b (12 * i + j) s3 ∧ xk k8 s s3) 12 (by omega) ?_ ?_ s2 ⟨h1, h2⟩
    · intro m s3 ⟨p1, p2⟩
      rw [d6_findCrowd_L22]
      refine br_t (Int32.le_refl _) ?_
      intro v9 e9
      rw [nI_1] at e9
      subst e9
      exact ih s3 ⟨p1, p2⟩
    · intro m j s3 hj ⟨p1, p2⟩ ih2
      rw [d6_findCrowd_L22]
      have n3 : N2 5 b 20 s3 := n2.keep p2 (fun _ _ => rfl)
      refine br_f (nle (a := 12) hj (by omega)) (l2_headsAt n3 hi hj ?_)
      rw [show nI i * (12 : Int32) + nI j = nI (12 * i + j) by rw [l_12, pk_mul, nI_add, Nat.mul_comm], show s_heads b (s_run b (i + 1)) j = hd b (12 * i + j) by unfold hd; rw [show (12 * i + j) / 12 = i by omega, show (12 * i + j) % 12 = j by omega]]
      refine CB_offer hb (by omega) p1 fun s6 p6 k6 => ?_
      intro v7 e7
      rw [nI_1] at e7
      subst e7
      exact ih2 s6 ⟨p6, p2.tr k6⟩
def mb (b : Bl) (i : Nat) : Int32 := if (cr b i).2 = 0 then -1 else nI (cr b i).1
set_option maxHeartbeats 4000000 in
theorem l7_crowdL {b : Bl} {a : Int32} {s : xSt} {Q : Int32 → xSt → Prop} {K : Int32 → Int32 → xSt → Prop} (hb : VB b) (n7 : N7 b s) (hq : K (mb b 240) (nI (cr b 240).2) s) : d7_crowdOf_L11 a K Q x_lim (-1) 0 0 s := by
  refine lp0 (fun n i (_ : Unit) => d7_crowdOf_L11 a K Q n (mb b i) (nI (cr b i).2) (nI i) s) (fun _ _ => True) 240 (by omega) ?_ ?_ () trivial
  · intro n _ _
    rw [d7_crowdOf_L11]
    exact br_t (Int32.le_refl _) hq
  · intro n i _ hi _ ih
    have ih := ih () trivial
    have l1 := hd_le hb i
    have l2 := (cr_le hb i).2
    have e : cr b (i + 1) = if (cr b i).2 < hd b i then (i, hd b i) else cr b i := rfl
    rw [d7_crowdOf_L11, show nI i / (12 : Int32) = nI (i / 12) from pk_div (d := 12) (by omega) (by omega) (by omega), show nI (i / 12) * (12 : Int32) = nI (i / 12 * 12) from pk_mul _ _, pk_sub (by omega), show i - i / 12 * 12 = i % 12 by omega]
    refine br_f (nle (a := 240) hi (by omega)) ⟨by decide, by decide, ?_⟩
    refine l7_manyAt hb (VS.run hb (i / 12 + 1) (by omega)) (by omega) (Nat.mod_lt _ (by omega)) n7.1.1 (n7.2 (i / 12) (by omega)).1 ?_
    show jn _ _
    rw [show s_heads b (s_run b (i / 12 + 1)) (i % 12) = hd b i from rfl]
    unfold jn
    unfold mb at ih ⊢
    rw [e] at ih
    by_cases q : (cr b i).2 < hd b i
    · rw [if_pos q] at ih
      have w : ¬ (i, hd b i).2 = 0 := fun z => by have z : hd b i = 0 := z; omega
      rw [if_neg w] at ih
      refine br_f (nle q (by omega)) (br_f (nle q (by omega)) ?_)
      intro v e; subst e
      rw [nI_1]; exact ih
    · rw [if_neg q] at ih
      refine br_t (nI_le (by omega) (by omega)) (br_t (nI_le (by omega) (by omega)) ?_)
      intro v e; subst e
      rw [nI_1]; exact ih
set_option maxHeartbeats 4000000 in
theorem heads_pos {b : Bl} {S : Sm} (h : 0 < bm b) : 0 < s_heads b S (ps S 0) := by
  unfold s_heads
  have : ∀ n, 0 < n → 0 < it (fun k n => if ps S k = ps S 0 then n + 1 else n) n 0 := by
    intro n
    induction n with
    | zero => intro z; omega
    | succ n ih =>
      intro _
      rw [it_succ]
      rcases Nat.eq_zero_or_pos n with z | z
      · subst z
        rw [if_pos rfl]
        omega
      · have := ih z
        split <;> omega
  exact this _ h
set_option maxHeartbeats 4000000 in
theorem cr_mono {b : Bl} : ∀ i j, j < i → hd b j ≤ (cr b i).2 := by
  intro i
  induction i with
  | zero => intro j h; omega
  | succ i ih =>
    intro j h
    have e : cr b (i + 1) = if (cr b i).2 < hd b i then (i, hd b i) else cr b i := rfl
    rw [e]
    rcases Nat.lt_or_ge j i with c | c
    · have := ih j c
      split
      · show hd b j ≤ hd b i; omega
      · exact this
    · have : j = i := by omega
      subst this
      split
      · exact Nat.le_refl _
      · omega
set_option maxHeartbeats 4000000 in
theorem cr_pos {b : Bl} (hb : VB b) (h : 0 < bm b) : 0 < (cr b 240).2 := by
  have p := (VS.run hb 1 (by omega)).2.1 0 h
  have g := heads_pos (S := s_run b 1) h
  have := cr_mono (b := b) 240 (ps (s_run b 1) 0) (by omega)
  unfold hd at this
  rw [show ps (s_run b 1) 0 / 12 = 0 by omega, show ps (s_run b 1) 0 % 12 = ps (s_run b 1) 0 by omega] at this
  exact Nat.lt_of_lt_of_le g this
set_option maxHeartbeats 4000000 in
theorem q_crowd {w : Int32} {σ : xSt} (h : RR σ) : d6_crowd w σ (fun r s1 => d7_crowd w s1 (fun r' s2 => r = r' ∧ RR s2)) := by
  obtain ⟨t, hT, hC, hM⟩ := h
  have hm := t_m_le hT
  have x := hC.1.2.1.1.1
  have hb := VB_bt hT
  by_cases d : ∃ i, i < 3 ∧ w = nI i
  rotate_left
  · exact same (D6 := d6_crowd w) (D7 := d7_crowd w) hT hC hM (a := -2) (fun Q q => ⟨fun _ => q, fun z => br_f (w_lt0 (n := 2) d (by omega) z) q⟩) (fun Q q => l7_inB (n := 2) (by omega) rfl d (br_t rfl q))
  obtain ⟨i, hi, e⟩ := d
  subst e
  have e0 : nI i = 0 ↔ i = 0 := nI_eq (b := 0) (by omega) (by omega)
  have e1 : nI i = 1 ↔ i = 1 := nI_eq (b := 1) (by omega) (by omega)
  have e2 : nI i = 2 ↔ i = 2 := nI_eq (b := 2) (by omega) (by omega)
  have lc := cr_le hb 240
  have hdiv : nI (cr (bt t) 240).1 / (12 : Int32) = nI ((cr (bt t) 240).1 / 12) := pk_div (d := 12) (by omega) (by omega) (by omega)
  have hrem : nI (cr (bt t) 240).1 - nI (cr (bt t) 240).1 / 12 * 12 = nI ((cr (bt t) 240).1 % 12) := pk_rem (d := 12) (by omega) (by omega) (by omega)
  refine both (D6 := d6_crowd (nI i)) (D7 := d7_crowd (nI i)) (a := if t_m t = 0 then -1 else if i = 0 then nI ((cr (bt t) 240).1 / 12) else if i = 1 then nI ((cr (bt t) 240).1 % 12) else nI (cr (bt t) 240).2) hM hT (fun Q hq => ?_) fun s1 Q p hq => ?_
  · unfold d6_crowd
    rw [x]
    refine br_f (nI_pos (by omega)) (br_t (nI_le (b := 2) (by omega) (by omega)) ?_)
    by_cases z : t_m t = 0
    · rw [if_pos z] at hq
      rw [z]; exact bn_t rfl (hq σ hC xk.rf)
    · rw [if_neg z] at hq
      refine bn_f (nne (b := 0) z (by omega) (by omega)) (l6_chamberAsTold hT hC fun s2 p2 n2 k2 => l6_findCrowd hb n2 fun s' cb k8' => ?_)
      have g := cb.2 (by omega)
      rw [g.1, g.2, e0, e2, hrem, hdiv]
      have p' : PC t s' := p2.keep k8' rfl rfl (fun a o c q => by simp only [k8, Bool.not_eq_true', beq_eq_false_iff_ne]; omega)
      have q := hq s' p' ((kA5_R k2).tr (k8'.mono fun a o c q => by
        simp only [k8, kR, Bool.not_eq_true', beq_eq_false_iff_ne, beq_iff_eq] at q ⊢; omega))
      refine ⟨fun a => ⟨fun b' => ⟨by decide, ?_⟩, fun b' => ⟨by decide, ?_⟩⟩, fun a => ?_⟩
      · rw [if_neg b', if_pos (by omega)] at q; exact q
      · rw [if_pos b'] at q; exact q
      · rw [if_neg (by omega), if_neg (by omega)] at q; exact q
  · refine l7_inG (n := 2) (by omega) rfl hi (br_f (by decide) ?_)
    unfold d7_crowdOf
    refine l7_runsTold hT p fun s' n _ p' k' => l7_crowdL hb n ?_
    have q := hq s' p' k'
    rw [e0, e1]
    by_cases z : t_m t = 0
    · rw [if_pos z] at q
      have c0 : (cr (bt t) 240).2 = 0 := by
        have : ∀ i, (cr (bt t) i).2 = 0 := by
          intro i
          induction i with
          | zero => rfl
          | succ i ih =>
            have e : cr (bt t) (i + 1) = if (cr (bt t) i).2 < hd (bt t) i then (i, hd (bt t) i) else cr (bt t) i := rfl
            have h0 : hd (bt t) i = 0 := by
              have := heads_le (bt t) (s_run (bt t) (i / 12 + 1)) (i % 12) (bm (bt t))
              rw [bt_m, z] at this
              unfold hd s_heads
              rw [bt_m, z]; exact Nat.le_zero.mp this
            rw [e, h0, if_neg (by omega)]; exact ih
        exact this 240
      unfold mb
      rw [if_pos c0]
      exact bn_t rfl q
    · rw [if_neg z] at q
      have c0 := cr_pos hb (by rw [bt_m]; omega)
      unfold mb
      rw [if_neg (by omega), hrem, hdiv]
      refine bn_f (nI_nm (by omega)) ⟨fun a => ⟨fun b' => ?_, fun b' => ⟨by decide, ?_⟩⟩, fun a => ⟨by decide, ?_⟩⟩
      · rw [if_neg a, if_neg b'] at q; exact q
      · rw [if_neg a, if_pos b'] at q; exact q
      · rw [if_pos a] at q; exact q
