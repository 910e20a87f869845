set_option maxHeartbeats 4000000 in
theorem RO.keep {c : Nat} {b : Bl} {h : Nat} {S T : Sm} {s s1 : xSt} (hr : RO c b h S s) (hu : un T = un S) (h6 : xA s1 c 6 = xA s c 6) : RO c b h T s1 := fun k hk => by rw [h6, hu]; exact hr k hk
set_option maxHeartbeats 4000000 in
theorem l2_passOver {c k h : Nat} {b : Bl} {S : Sm} {s : xSt} {Q : xSt → Prop} (hb : VB b) (hV : VS b S) (hR : R2 c b S s) (hO : RO c b h S s) (hk : k < bm b) (hq : ∀ s', R2 c b (s_pass b h k S) s' → xA s' c 6 = xA s c 6 → xk (kc c) s s' → Q s') : d2_passOver c (nI k) s Q := by
  have hm := hb.1
  unfold d2_passOver
  refine br_f (nI_pos (by omega)) (br_t (nI_lt (b := 8) (by omega) (by omega)) ?_)
  refine lp0 (fun n i s1 => d2_passOver_L13 c (nI k) (fun s19 => Q s19) Q n (nI i) s) (fun i (_ : Unit) => ∀ j, j < i → ¬ omat h S k j) (bm b) (by omega) ?_ ?_ () (fun _ q => by omega)
  · intro n _ hn
    rw [d2_passOver_L13, hR.1]
    have e : s_pass b h k S = S := by unfold s_pass; rw [s_over_none _ hn]
    rw [e] at hq
    exact br_t (Int32.le_refl _) (hq s hR rfl xk.rf)
  · intro n i _ hi hn ih
    have p1 := hV.2.1 i hi
    have p2 := hV.2.1 k hk
    have u := hV.2.2.1 i hi
    rw [d2_passOver_L13, hR.1, ncl (by omega), ncl (by omega), hR.2.2.2.1 i hi, hR.2.2.2.1 k hk, hO i hi]
    have b1 : vp_in (nI i) 8 := nin (by omega) (by omega)
    have b2 : vp_in (nI k) 8 := nin (by omega) (by omega)
    have go : ¬ omat h S k i → d2_passOver_L13 c (nI k) (fun s19 => Q s19) Q n (nI i + 1) s := fun g => by
      rw [nI_1]
      refine ih () fun j hj => ?_
      rcases Nat.lt_or_ge j i with q | q
      · exact hn j q
      · have : j = i := by omega
        subst this; exact g
    refine br_f (nle hi (by omega)) ?_
    by_cases q1 : i = k
    · refine br_t (by rw [q1]) ?_
      intro v e; subst e
      exact go (fun g => g.1 q1)
    · refine br_f (nne q1 (by omega) (by omega)) ⟨b1, b2, ?_⟩
      by_cases q2 : ps S i = ps S k
      · refine bn_t (by rw [q2]) ⟨b1, ?_⟩
        by_cases q3 : h < un S i
        · rw [if_pos q3]
          refine bn_f (by decide) ?_
          intro v e; subst e
          exact go (fun g => g.2.2 q3)
        · rw [if_neg q3]
          refine bn_t rfl ⟨b1, b1, ?_⟩
          have e : s_pass b h k S = s_sc (s_up S i (1 - up S i)) k (sc S k + 1) := by unfold s_pass; rw [s_over_some ⟨q1, q2, q3⟩ hn _ hi]
          rw [e] at hq
          intro s15 e15
          subst e15
          refine ⟨b2, b2, ?_⟩
          intro s18 e18
          subst e18
          have r1 := hR.up i (v := 1 - xA s c 4 i) (w := 1 - up S i) (by rw [hR.2.2.2.2.1 i hi, l_1, pk_sub u])
          refine hq _ (r1.sc k ?_) ?_ ((xk.rf.uA (kcA (by omega))).uA (kcA (by omega)))
          · rw [r1.2.2.2.2.2.2.1 k hk, nI_1]; rfl
          · rw [xA_xuA_ne (by omega), xA_xuA_ne (by omega)]
      · refine bn_f (nne q2 (by omega) (by omega)) ?_
        intro v e; subst e
        exact go (fun g => q2 g.2.1)
set_option maxHeartbeats 4000000 in
theorem l2_step {c k : Nat} {b : Bl} {S : Sm} {s : xSt} {Q : Int32 → xSt → Prop} (hb : VB b) (hV : VS b S) (hR : R2 c b S s) (hk : k < bm b)
    (q1 : dm S (ps S k) + 1 < (if s_less S (ps S k) < s_more S (ps S k) then s_more S (ps S k) else s_less S (ps S k)) → ∀ s', R2 c b (s_wt (s_ps S k (if s_less S (ps S k) < s_more S (ps S k) then ps S k + 1 else ps S k - 1)) (wt S ||| (1 <<< (nI k &&& 31)))) s' → xA s' c 6 = xA s c 6 → xk (kc c) s s' → Q 1 s')
    (q0 : ¬ dm S (ps S k) + 1 < (if s_less S (ps S k) < s_more S (ps S k) then s_more S (ps S k) else s_less S (ps S k)) → Q 0 s) : d2_step c (nI k) s Q := by
  have hm := hb.1
  have hp := hV.2.1 k hk
  have hd := hV.1 _ hp
  unfold d2_step
  refine br_f (nI_pos (by omega)) (br_t (nI_lt (b := 8) (by omega) (by omega)) ⟨nin (by omega) (by omega), ?_⟩)
  intro v4 e4
  rw [ncl (by omega), hR.2.2.2.1 k hk] at e4
  subst e4
  unfold jn
  generalize hpp : ps S k = p at *
  -- where it comes to
  have fin : ∀ t, t < 12 → ((t = p ∧ ¬ dm S p + 1 < (if s_less S p < s_more S p then s_more S p else s_less S p)) ∨ (¬ t = p ∧ dm S p + 1 < (if s_less S p < s_more S p then s_more S p else s_less S p) ∧ t = (if s_less S p < s_more S p then p + 1 else p - 1))) → ((¬ nI t = nI p → vp_in (nI k) 8 ∧ ∀ s23 : xSt, s23 = xuA s c 3 (nI k).toNatClampNeg (nI t) → ∀ s24 : xSt, s24 = xsI s23 c 9 ((xI s23 c 9) ||| (1 <<< (nI k &&& 31))) → Q 1 s24) ∧ (nI t = nI p → Q 0 s)) := by
    intro t ht ht2
    rcases ht2 with ⟨g1, g2⟩ | ⟨g1, g2, g3⟩
    · exact bn_t (by rw [g1]) (q0 g2)
    · refine bn_f (nne g1 (by omega) (by omega)) ⟨nin (by omega) (by omega), ?_⟩
      intro s23 e23 s24 e24
      rw [ncl (by omega)] at e23
      subst e24 e23
      have e5 : xI (xuA s c 3 k (nI t)) c 9 = wt S := hR.2.2.2.2.2.2.2
      rw [e5]
      refine q1 g2 _ ?_ ?_ ((xk.rf.uA (kcA (by omega))).sI kcI)
      · rw [← g3]
        exact (hR.ps k rfl).wt _
      · rw [xA_xsI, xA_xuA_ne (by omega)]
  -- the second look
  have mid : ∀ t, t < 12 → t = (if dm S p + 1 < s_less S p then p - 1 else p) → ((nI p < 0 → ((¬ nI t = nI p → vp_in (nI k) 8 ∧ ∀ s23 : xSt, s23 = xuA s c 3 (nI k).toNatClampNeg (nI t) → ∀ s24 : xSt, s24 = xsI s23 c 9 ((xI s23 c 9) ||| (1 <<< (nI k &&& 31))) → Q 1 s24) ∧ (nI t = nI p → Q 0 s))) ∧ (¬ nI p < 0 → (12 ≤ (nI p + 1) → ((¬ nI t = nI p → vp_in (nI k) 8 ∧ ∀ s23 : xSt, s23 = xuA s c 3 (nI k).toNatClampNeg (nI t) → ∀ s24 : xSt, s24 = xsI s23 c 9 ((xI s23 c 9) ||| (1 <<< (nI k &&& 31))) → Q 1 s24) ∧ (nI t = nI p → Q 0 s))) ∧ (¬ 12 ≤ (nI p + 1) → vp_in (nI p + 1) 12 ∧ vp_in (nI t) 12 ∧ ((xA s c 0 (nI p + 1).toNatClampNeg) ≤ (xA s c 0 (nI t).toNatClampNeg) → ((¬ nI t = nI p → vp_in (nI k) 8 ∧ ∀ s23 : xSt, s23 = xuA s c 3 (nI k).toNatClampNeg (nI t) → ∀ s24 : xSt, s24 = xsI s23 c 9 ((xI s23 c 9) ||| (1 <<< (nI k &&& 31))) → Q 1 s24) ∧ (nI t = nI p → Q 0 s))) ∧ (¬ (xA s c 0 (nI p + 1).toNatClampNeg) ≤ (xA s c 0 (nI t).toNatClampNeg) → ∀ v30 : Int32, v30 = nI p + 1 → ((¬ v30 = nI p → vp_in (nI k) 8 ∧ ∀ s23 : xSt, s23 = xuA s c 3 (nI k).toNatClampNeg v30 → ∀ s24 : xSt, s24 = xsI s23 c 9 ((xI s23 c 9) ||| (1 <<< (nI k &&& 31))) → Q 1 s24) ∧ (v30 = nI p → Q 0 s)))))) := by
    intro t ht ht2
    have hl0 : s_less S p = if 0 < p then dm S (p - 1) + 1 else 0 := rfl
    have hm0 : s_more S p = if p + 1 < 12 then dm S (p + 1) + 1 else 0 := rfl
    refine br_f (nI_pos (by omega)) ?_
    rw [nI_1]
    by_cases g : p + 1 < 12
    · rw [ncl (a := p + 1) (by omega), ncl (a := t) (by omega), hR.2.2.1 (p + 1) g, hR.2.2.1 t ht]
      have d1 := hV.1 (p + 1) g
      have d2 := hV.1 t ht
      rw [if_pos g] at hm0
      refine br_f (nle (a := 12) g (by omega)) ⟨nin g (by omega), nin ht (by omega), ?_⟩
      by_cases q : dm S (p + 1) ≤ dm S t
      · refine br_t (nI_le q (by omega)) (fin t ht ?_)
        by_cases r : dm S p + 1 < s_less S p
        · rw [if_pos r] at ht2
          have hp0 : 0 < p := by
            rcases Nat.eq_zero_or_pos p with z | z
            · rw [if_neg (by omega)] at hl0; omega
            · exact z
          rw [if_pos hp0] at hl0
          subst ht2
          refine Or.inr ⟨by omega, ?_, ?_⟩
          · rw [if_neg (by omega)]; exact r
          · rw [if_neg (by omega)]
        · rw [if_neg r] at ht2
          subst ht2
          refine Or.inl ⟨rfl, ?_⟩
          split <;> omega
      · refine br_f (nle (by omega) (by omega)) ?_
        intro v30 e30
        subst e30
        refine fin (p + 1) g (Or.inr ⟨by omega, ?_, ?_⟩)
        · by_cases r : dm S p + 1 < s_less S p
          · rw [if_pos r] at ht2
            split <;> omega
          · rw [if_neg r] at ht2
            subst ht2
            rw [if_pos (by omega)]; omega
        · by_cases r : dm S p + 1 < s_less S p
          · rw [if_pos r] at ht2
            have hp0 : 0 < p := by
              rcases Nat.eq_zero_or_pos p with z | z
              · rw [if_neg (by omega)] at hl0; omega
              · exact z
            rw [if_pos hp0] at hl0
            subst ht2
            rw [if_pos (by omega)]
          · rw [if_neg r] at ht2
            subst ht2
            rw [if_pos (by omega)]
    · rw [if_neg g] at hm0
      refine br_t (nI_le (a := 12) (by omega) (by omega)) (fin t ht ?_)
      by_cases r : dm S p + 1 < s_less S p
      · rw [if_pos r] at ht2
        subst ht2
        refine Or.inr ⟨by omega, ?_, ?_⟩
        · rw [if_neg (by omega)]; exact r
        · rw [if_neg (by omega)]
      · rw [if_neg r] at ht2
        subst ht2
        refine Or.inl ⟨rfl, ?_⟩
        rw [if_neg (by omega)]; exact r
  have hl0 : s_less S p = if 0 < p then dm S (p - 1) + 1 else 0 := rfl
  by_cases g : 0 < p
  · rw [if_pos g] at hl0
    obtain ⟨z, hz⟩ : ∃ z, p = z + 1 := ⟨p - 1, by omega⟩
    have d1 := hV.1 (p - 1) (by omega)
    have e1 : nI p - 1 = nI (p - 1) := by rw [hz, nI_pred]; rfl
    refine br_f (nI_nle g (by omega)) (br_f (nle (a := 12) hp (by omega)) ⟨by rw [e1]; exact nin (by omega) (by omega), nin hp (by omega), ?_⟩)
    rw [e1, ncl (a := p - 1) (by omega), ncl (a := p) (by omega), hR.2.2.1 (p - 1) (by omega), hR.2.2.1 p hp]
    by_cases q : dm S (p - 1) ≤ dm S p
    · refine br_t (nI_le q (by omega)) (mid p hp ?_)
      rw [if_neg (by omega)]
    · refine br_f (nle (by omega) (by omega)) ?_
      intro v36 e36
      subst e36
      refine mid (p - 1) (by omega) ?_
      rw [if_pos (by omega)]
  · have hz : p = 0 := by omega
    refine br_t (nI_le (b := 0) (by omega) (by omega)) (mid p hp ?_)
    rw [if_neg g] at hl0
    rw [if_neg (by omega)]
