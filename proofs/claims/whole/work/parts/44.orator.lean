-- orator
set_option maxHeartbeats 4000000 in
theorem it_grow {f : Nat → Sm → Sm} {c : Nat} (h : ∀ k S j, sc (f k S) j ≤ sc S j + c) : ∀ n S j, sc (it f n S) j ≤ sc S j + n * c := by
  intro n
  induction n with
  | zero => intro S j; exact Nat.le_add_right _ _
  | succ n ih =>
    intro S j
    rw [it_succ]
    have a := h n (it f n S) j
    have b := ih S j
    rw [Nat.succ_mul]
    omega
set_option maxHeartbeats 4000000 in
theorem pass_sc {b : Bl} {h k : Nat} {S : Sm} (j : Nat) : sc (s_pass b h k S) j ≤ sc S j + 1 := by
  unfold s_pass
  split
  · omega
  · show fu (sc S) k (sc S k + 1) j ≤ sc S j + 1
    rw [fu_ap]
    split
    · rename_i q; rw [q]; exact Nat.le_refl _
    · omega
set_option maxHeartbeats 4000000 in
theorem step_sc {b : Bl} {h k : Nat} {S : Sm} (j : Nat) : sc (s_step b h k S) j ≤ sc S j + 1 := by
  unfold s_step
  generalize (if s_less S (ps S k) < s_more S (ps S k) then s_more S (ps S k) else s_less S (ps S k)) = m
  by_cases c : dm S (ps S k) + 1 < m
  · rw [if_pos c]; exact pass_sc (S := s_wt (s_ps S k (if s_less S (ps S k) < s_more S (ps S k) then ps S k + 1 else ps S k - 1)) (wt S ||| (1 <<< (nI k &&& 31)))) j
  · rw [if_neg c]; omega
set_option maxHeartbeats 4000000 in
theorem walk_sc {b : Bl} {h k : Nat} {S : Sm} (j : Nat) : sc (s_walk b h k S) j ≤ sc S j + 2 := by
  unfold s_walk
  split
  · have g := it_grow (f := fun _ => s_step b h k) (c := 1) (fun _ S j => step_sc j) (s_many (bs b k) h) S j
    have : s_many (bs b k) h ≤ 2 := by unfold s_many; split; omega; split; omega; split <;> omega
    omega
  · omega
set_option maxHeartbeats 4000000 in
theorem ev_sc {b : Bl} {h : Nat} {S : Sm} (e : Ev) : sc (s_ev b h S e) = sc S := by
  unfold s_ev
  split
  · split
    · exact it_inv (fun T => sc T = sc S) _ _ rfl (fun _ _ _ q => q)
    · split
      · refine it_inv (fun T => sc T = sc S) _ _ rfl (fun _ y _ q => ?_)
        show sc (if _ then _ else _) = _
        split
        · exact q
        · exact q
      · split
        · exact it_inv (fun T => sc T = sc S) _ _ rfl (fun _ _ _ q => q)
        · exact it_inv (fun T => sc T = sc S) _ _ rfl (fun _ _ _ q => q)
  · rfl
set_option maxHeartbeats 4000000 in
theorem fold_sc {b : Bl} {h : Nat} : ∀ (l : List Ev) (S : Sm), sc (l.foldl (s_ev b h) S) = sc S := by
  intro l
  induction l with
  | nil => intro S; rfl
  | cons e l ih => intro S; rw [List.foldl_cons, ih, ev_sc]
set_option maxHeartbeats 4000000 in
theorem hour_sc {b : Bl} (hb : VB b) {h : Nat} {S : Sm} (j : Nat) : sc (s_hour b h S) j ≤ sc S j + 16 := by
  have hm := hb.1
  unfold s_hour
  rw [dry_sc]
  have g := it_grow (f := s_walk b h) (c := 2) (fun _ S j => walk_sc j) (bm b) (s_evs b h S) j
  have e : sc (s_evs b h S) = sc S := fold_sc (be b) S
  rw [e] at g
  unfold s_walks
  omega
set_option maxHeartbeats 4000000 in
theorem run_sc {b : Bl} (hb : VB b) (j : Nat) : ∀ h, sc (s_run b h) j ≤ 16 * h := by
  intro h
  induction h with
  | zero => exact Nat.zero_le _
  | succ h ih =>
    have := hour_sc hb (h := h) (S := s_run b h) j
    show sc (s_hour b h (s_run b h)) j ≤ _
    omega
def ob (b : Bl) : Nat → Nat
  | 0 => 0
  | i + 1 => if sc (s_run b 20) (ob b i) < sc (s_run b 20) i then i else ob b i
set_option maxHeartbeats 4000000 in
theorem ob_le (b : Bl) : ∀ i, ob b i ≤ i := by
  intro i
  induction i with
  | zero => exact Nat.le_refl 0
  | succ i ih => unfold ob; split <;> omega
set_option maxHeartbeats 4000000 in
theorem ob_lt (b : Bl) : ∀ i, 0 < i → ob b i < i := by
  intro i
  induction i with
  | zero => intro h; omega
  | succ i ih =>
    intro _
    have := ob_le b i
    unfold ob; split <;> omega
def OB (b : Bl) (i : Nat) (s : xSt) : Prop := (i = 0 → xI s 8 0 = -1 ∧ xI s 8 1 = -1) ∧ (0 < i → xI s 8 0 = nI (ob b i) ∧ xI s 8 1 = nI (sc (s_run b 20) (ob b i)))
set_option maxHeartbeats 4000000 in
theorem l6_oratorL {t : Td} {s : xSt} {Q : Int32 → xSt → Prop} (hT : VT t) (hC : PC t s) (n2 : N2 5 (bt t) 20 s) (hq : ∀ s', OB (bt t) (t_m t) s' → xk k8 s s' → Q (xI s' 8 0) s') : d0_start s (fun s2 => d6_orator_L14 (fun s8 => Q (xI s8 8 0) s8) Q x_lim 0 s2) := by
  have hm := t_m_le hT
  have hb := VB_bt hT
  refine l0_start fun s1 g0 g1 k1 => ?_
  refine lp0 (fun n i s2 => d6_orator_L14 (fun s8 => Q (xI s8 8 0) s8) Q n (nI i) s2) (fun i s2 => OB (bt t) i s2 ∧ xk k8 s s2) (t_m t) (by omega) ?_ ?_ s1 ⟨⟨fun _ => ⟨g0, g1⟩, fun w => by omega⟩, k1⟩
  · intro n s2 ⟨h1, h2⟩
    rw [d6_orator_L14, h2.1 3 4 rfl, hC.1.2.1.1.1]
    exact br_t (Int32.le_refl _) (hq s2 h1 h2)
  · intro n i s2 hi ⟨h1, h2⟩ ih
    rw [d6_orator_L14, h2.1 3 4 rfl, hC.1.2.1.1.1]
    have n3 : N2 5 (bt t) 20 s2 := n2.keep h2 (fun _ _ => rfl)
    refine br_f (nle hi (by omega)) (l2_ofMember (h := 19) (w := 3) hb n3 (by omega) hi (by omega) ?_)
    show d0_offer (nI i) (nI (sc (s_run (bt t) 20) i)) s2 _
    have e : ob (bt t) (i + 1) = if sc (s_run (bt t) 20) (ob (bt t) i) < sc (s_run (bt t) 20) i then i else ob (bt t) i := rfl
    have b1 := run_sc hb i 20
    have b2 := run_sc hb (ob (bt t) i) 20
    have fin : ∀ s6, OB (bt t) (i + 1) s6 → xk k8 s s6 → ∀ v7 : Int32, v7 = nI i + 1 → d6_orator_L14 (fun s8 => Q (xI s8 8 0) s8) Q n v7 s6 := by
      intro s6 o6 k6 v7 e7
      rw [nI_1] at e7
      subst e7
      exact ih s6 ⟨o6, k6⟩
    rcases Nat.eq_zero_or_pos i with z | z
    · refine l0_offer (fun q => ?_) (fun q s' p0 p1 k => fin s' ⟨fun w => by omega, fun _ => ?_⟩ (h2.tr k))
      · rw [(h1.1 z).2] at q
        exact absurd q (Int32.not_le.mpr (Int32.lt_of_lt_of_le (by decide) (nI_pos' (by omega))))
      · rw [p0, p1, e]
        subst z
        rw [show ob (bt t) 0 = 0 from rfl, if_neg (Nat.lt_irrefl _)]
        exact ⟨rfl, rfl⟩
    · have g := h1.2 z
      refine l0_offer (fun q => fin s2 ⟨fun w => by omega, fun _ => ?_⟩ h2) (fun q s' p0 p1 k => fin s' ⟨fun w => by omega, fun _ => ?_⟩ (h2.tr k))
      · rw [g.2] at q
        rw [e, if_neg (fun w => nle w (by omega) q)]
        exact g
      · rw [g.2] at q
        rw [e, if_pos (Nat.not_le.mp fun w => q (nI_le w (by omega)))]
        exact ⟨p0, p1⟩
set_option maxHeartbeats 4000000 in
theorem l7_oratorL {b : Bl} {s : xSt} {Q : Int32 → xSt → Prop} (hb : VB b) (n7 : N7 b s) (hq : Q (if bm b = 0 then -1 else nI (ob b (bm b))) s) : d7_oratorOf_L8 (fun v11 s10 => Q v11 s10) Q x_lim (-1) 0 s := by
  have hm := hb.1
  refine lp0 (fun n i (_ : Unit) => d7_oratorOf_L8 (fun v11 s10 => Q v11 s10) Q n (if i = 0 then -1 else nI (ob b i)) (nI i) s) (fun _ _ => True) (bm b) (by omega) ?_ ?_ () trivial
  · intro n _ _
    rw [d7_oratorOf_L8, n7.1.1]
    exact br_t (Int32.le_refl _) hq
  · intro n i _ hi _ ih
    have ih := ih () trivial
    rw [if_neg (by omega)] at ih
    have e : ob b (i + 1) = if sc (s_run b 20) (ob b i) < sc (s_run b 20) i then i else ob b i := rfl
    have b1 := run_sc hb i 20
    have b2 := run_sc hb (ob b i) 20
    rw [d7_oratorOf_L8, n7.1.1]
    refine br_f (nle hi (by omega)) ?_
    rcases Nat.eq_zero_or_pos i with z | z
    · rw [if_pos z]
      refine br_t rfl ?_
      intro v ev; subst ev
      rw [nI_1]
      rw [e, z, show ob b 0 = 0 from rfl, if_neg (Nat.lt_irrefl _), ← z] at ih
      subst z
      exact ih
    · rw [if_neg (by omega)]
      have lt := ob_lt b i z
      refine br_f (nI_nm (by omega)) ⟨nin (by omega) (by omega), nin (by omega) (by omega), ?_⟩
      rw [ncl (a := i) (by omega), ncl (a := ob b i) (by omega), n7.1.2.2.2.2.2.2.1 i hi, n7.1.2.2.2.2.2.2.1 (ob b i) (by omega)]
      by_cases q : sc (s_run b 20) (ob b i) < sc (s_run b 20) i
      · rw [e, if_pos q] at ih
        refine br_f (nle q (by omega)) ?_
        intro v ev; subst ev
        rw [nI_1]; exact ih
      · rw [e, if_neg q] at ih
        refine br_t (nI_le (by omega) (by omega)) ?_
        intro v ev; subst ev
        rw [nI_1]; exact ih
set_option maxHeartbeats 4000000 in
theorem k8_R {s s1 : xSt} (h : xk k8 s s1) : xk kR s s1 := h.mono (fun a o c q => by
  simp only [k8, kR, Bool.not_eq_true', beq_eq_false_iff_ne, beq_iff_eq] at q ⊢; omega)
set_option maxHeartbeats 4000000 in
theorem PC.st8 {t : Td} {s s1 : xSt} (h : PC t s) (k : xk k8 s s1) : PC t s1 := h.keep k rfl rfl (fun a o c q => by simp only [k8, Bool.not_eq_true', beq_eq_false_iff_ne]; omega)
set_option maxHeartbeats 4000000 in
theorem q_orator {σ : xSt} (h : RR σ) : d6_orator σ (fun r s1 => d7_orator s1 (fun r' s2 => r = r' ∧ RR s2)) := by
  obtain ⟨t, hT, hC, hM⟩ := h
  have hb := VB_bt hT
  refine both (D6 := d6_orator) (D7 := d7_orator) (a := if t_m t = 0 then -1 else nI (ob (bt t) (t_m t))) hM hT (fun Q hq => ?_) fun s1 Q p hq => ?_
  · unfold d6_orator
    refine l6_chamberAsTold hT hC fun s2 p2 n2 k2 => l6_oratorL hT p2 n2 fun s' o k => ?_
    have q := hq s' (p2.st8 k) ((kA5_R k2).tr (k8_R k))
    by_cases z : t_m t = 0
    · rw [if_pos z] at q
      rw [(o.1 z).1]; exact q
    · rw [if_neg z] at q
      rw [(o.2 (by omega)).1]; exact q
  · unfold d7_orator d7_oratorOf
    exact l7_runsTold hT p fun s' n _ p' k' => l7_oratorL hb n (hq s' p' k')
