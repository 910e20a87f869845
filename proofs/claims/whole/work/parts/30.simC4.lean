/-- row h of a chamber's records holds a state -/
def T2 (c : Nat) (b : Bl) (h : Nat) (S : Sm) (s : xSt) : Prop := (∀ p, p < 12 → xB s c 10 h p = nI (dm S p)) ∧ (∀ p, p < 12 → xB s c 11 h p = nI (s_heads b S p)) ∧ (∀ k, k < bm b → xB s c 12 h k = nI (ps S k)) ∧ (∀ k, k < bm b → xB s c 13 h k = nI (up S k)) ∧ (∀ k, k < bm b → xB s c 14 h k = if h < un S k then 1 else 0) ∧ (∀ k, k < bm b → xB s c 15 h k = nI (sc S k)) ∧ xA s c 16 h = nI (s_ayes b h S) ∧ xA s c 17 h = nI (s_noes b h S)
def rk2 (c h : Nat) (s s1 : xSt) : Prop := (∀ k r, r < h → xB s1 c k r = xB s c k r) ∧ (∀ j, j < h → xA s1 c 16 j = xA s c 16 j) ∧ (∀ j, j < h → xA s1 c 17 j = xA s c 17 j)
set_option maxHeartbeats 4000000 in
theorem rk2.rf {c h : Nat} {s : xSt} : rk2 c h s s := ⟨fun _ _ _ => rfl, fun _ _ => rfl, fun _ _ => rfl⟩
set_option maxHeartbeats 4000000 in
theorem rk2.tr {c h : Nat} {x y z : xSt} (p : rk2 c h x y) (q : rk2 c h y z) : rk2 c h x z := ⟨fun k r g => (q.1 k r g).trans (p.1 k r g), fun j g => (q.2.1 j g).trans (p.2.1 j g), fun j g => (q.2.2 j g).trans (p.2.2 j g)⟩
set_option maxHeartbeats 4000000 in
theorem rk2.of {c h : Nat} {s s1 : xSt} (g : xk (kc c) s s1) : rk2 c h s s1 := ⟨fun k r _ => g.2.2 c k r kcX, fun j _ => by rw [g.2.1 c 16 (kcR (by omega))], fun j _ => by rw [g.2.1 c 17 (kcR (by omega))]⟩
set_option maxHeartbeats 4000000 in
theorem T2.keep {c h h' : Nat} {b : Bl} {S : Sm} {s s1 : xSt} (hT : T2 c b h' S s) (hk : rk2 c h s s1) (hh : h' < h) : T2 c b h' S s1 := by
  obtain ⟨t1, t2, t3, t4, t5, t6, t7, t8⟩ := hT
  obtain ⟨q1, q2, q3⟩ := hk
  exact ⟨by rw [q1 _ _ hh]; exact t1, by rw [q1 _ _ hh]; exact t2, by rw [q1 _ _ hh]; exact t3, by rw [q1 _ _ hh]; exact t4, by rw [q1 _ _ hh]; exact t5, by rw [q1 _ _ hh]; exact t6, by rw [q2 _ hh]; exact t7, by rw [q3 _ hh]; exact t8⟩
set_option maxHeartbeats 4000000 in
theorem l2_divide {c h : Nat} {b : Bl} {S : Sm} {s : xSt} {Q : xSt → Prop} (hb : VB b) (hV : VS b S) (hR : R2 c b S s) (hO : RO c b h S s) (hh : h < 20) (hq : ∀ s', R2 c b S s' → xA s' c 16 h = nI (s_ayes b h S) → xA s' c 17 h = nI (s_noes b h S) → xA s' c 1 = xA s c 1 → xA s' c 6 = xA s c 6 → rk2 c h s s' → xk (kw c) s s' → Q s') : d2_divide c (nI h) s Q := by
  have hm := hb.1
  unfold d2_divide
  rw [ncl (by omega)]
  have b1 : vp_in (nI h) 20 := nin (by omega) (by omega)
  refine l6_isHour hh (bn_f (by decide) ⟨b1, ?_⟩)
  intro s5 e5
  refine ⟨b1, ?_⟩
  intro s7 e7
  have i0 : R2 c b S s7 ∧ xA s7 c 16 h = nI 0 ∧ xA s7 c 17 h = nI 0 ∧ xA s7 c 1 = xA s c 1 ∧ xA s7 c 6 = xA s c 6 ∧ rk2 c h s s7 ∧ xk (kw c) s s7 := by
    subst e7 e5
    refine ⟨(hR.oth (fun _ => by omega)).oth (fun _ => by omega), ?_, ?_, ?_, ?_, ⟨fun _ _ _ => rfl, ?_, ?_⟩, (xk.rf.uA kwF).uA kwF⟩
    · rw [xA_xuA_ne (by omega), xA_xuA_eq, upd_eq]; rfl
    · rw [xA_xuA_eq, upd_eq]; rfl
    · rw [xA_xuA_ne (by omega), xA_xuA_ne (by omega)]
    · rw [xA_xuA_ne (by omega), xA_xuA_ne (by omega)]
    · rw [xA_xuA_ne (by omega), xA_xuA_eq]; exact upd_lt (fun _ _ => rfl) (by omega)
    · rw [xA_xuA_eq, xA_xuA_ne (by omega)]; exact upd_lt (fun _ _ => rfl) (by omega)
  clear e7 e5
  refine lp0 (fun n i s1 => d2_divide_L24 c (nI h) (fun s21 => Q s21) Q n (nI i) s1) (fun i s1 => R2 c b S s1 ∧ xA s1 c 16 h = nI (it (fun k n => if h < un S k then n else if up S k = 1 then n + 1 else n) i 0) ∧ xA s1 c 17 h = nI (it (fun k n => if h < un S k then n else if up S k = 1 then n else n + 1) i 0) ∧ xA s1 c 1 = xA s c 1 ∧ xA s1 c 6 = xA s c 6 ∧ rk2 c h s s1 ∧ xk (kw c) s s1) (bm b) (by omega) ?_ ?_ s7 i0
  · intro n s1 ⟨h1, h2, h3, h4, h5, h6, h7⟩
    rw [d2_divide_L24, h1.1]
    exact br_t (Int32.le_refl _) (hq s1 h1 h2 h3 h4 h5 h6 h7)
  · intro n i s1 hi ⟨h1, h2, h3, h4, h5, h6, h7⟩ ih
    have hu := hV.2.2.1 i hi
    rw [it_succ, it_succ] at ih
    generalize it (fun k n => if h < un S k then n else if up S k = 1 then n + 1 else n) i 0 = A2 at h2 ih
    generalize it (fun k n => if h < un S k then n else if up S k = 1 then n else n + 1) i 0 = A3 at h3 ih
    have b2 : vp_in (nI i) 8 := nin (by omega) (by omega)
    have o6 : xA s1 c 6 i = if h < un S i then 1 else 0 := by rw [h5]; exact hO i hi
    rw [d2_divide_L24, h1.1, ncl (by omega), ncl (by omega), o6, h1.2.2.2.2.1 i hi, h2]
    refine br_f (nle hi (by omega)) ⟨b2, ?_⟩
    by_cases q : h < un S i
    · rw [if_pos q, if_pos q] at ih
      rw [if_pos q]
      refine bn_f (by decide) ?_
      intro v e; subst e
      rw [nI_1]
      exact ih s1 ⟨h1, h2, h3, h4, h5, h6, h7⟩
    · rw [if_neg q, if_neg q] at ih
      rw [if_neg q]
      refine bn_t rfl ⟨b1, b2, b1, ?_⟩
      intro s15 e15
      refine ⟨b1, b2, b1, ?_⟩
      intro s19 e19 v e
      subst e
      rw [nI_1]
      have r15 : R2 c b S s15 := by rw [e15]; exact h1.oth (fun _ => by omega)
      have f15 : xA s15 c 17 h = nI A3 := by rw [e15, xA_xuA_ne (by omega)]; exact h3
      rw [r15.2.2.2.2.1 i hi, f15] at e19
      subst e19 e15
      refine ih _ ⟨r15.oth (fun _ => by omega), ?_, ?_, ?_, ?_, ⟨h6.1, ?_, ?_⟩, (h7.uA kwF).uA kwF⟩
      · rw [xA_xuA_ne (by omega), xA_xuA_eq, upd_eq, nI_add]
        congr 1
        split <;> omega
      · rw [xA_xuA_eq, upd_eq, l_1, pk_sub hu, nI_add]
        congr 1
        split <;> omega
      · rw [xA_xuA_ne (by omega), xA_xuA_ne (by omega)]; exact h4
      · rw [xA_xuA_ne (by omega), xA_xuA_ne (by omega)]; exact h5
      · rw [xA_xuA_ne (by omega), xA_xuA_eq]; exact upd_lt h6.2.1 (by omega)
      · rw [xA_xuA_eq, xA_xuA_ne (by omega)]; exact upd_lt h6.2.2 (by omega)
set_option maxHeartbeats 4000000 in
theorem xB_ap (σ : xSt) (o k r j o' k' r' : Nat) (v : Int32) : xB (xuB σ o k r j v) o' k' r' = if o' = o ∧ k' = k ∧ r' = r then upd (xB σ o k r) j v else xB σ o' k' r' := rfl
set_option maxHeartbeats 4000000 in
theorem uB_lt {c k r j h : Nat} {s s1 : xSt} {v : Int32} (g : ∀ k r, r < h → xB s1 c k r = xB s c k r) (hr : h ≤ r) : ∀ k' r', r' < h → xB (xuB s1 c k r j v) c k' r' = xB s c k' r' := fun k' r' q => by rw [xB_xuB_ne (by omega)]; exact g k' r' q
set_option maxHeartbeats 4000000 in
theorem l2_keepRecord {c h : Nat} {b : Bl} {S : Sm} {s : xSt} {Q : xSt → Prop} (hb : VB b) (hR : R2 c b S s) (hO : RO c b h S s) (hH : ∀ p, p < 12 → xA s c 1 p = nI (s_heads b S p)) (hh : h < 20) (h16 : xA s c 16 h = nI (s_ayes b h S)) (h17 : xA s c 17 h = nI (s_noes b h S)) (hq : ∀ s', R2 c b S s' → T2 c b h S s' → rk2 c h s s' → xk (kw c) s s' → Q s') : d2_keepRecord c (nI h) s Q := by
  have hm := hb.1
  unfold d2_keepRecord
  have b1 : vp_in (nI h) 20 := nin (by omega) (by omega)
  refine l6_isHour hh (bn_f (by decide) ?_)
  -- A s1: all but B is as it was
  refine lp0 (fun n i s1 => d2_keepRecord_L10 c (nI h) _ Q n (nI i) s1) (fun i s1 => (xI s1 = xI s ∧ xA s1 = xA s ∧ ∀ o k r, ¬ o = c → xB s1 o k r = xB s o k r) ∧ (∀ p, p < i → xB s1 c 10 h p = nI (dm S p)) ∧ (∀ p, p < i → xB s1 c 11 h p = nI (s_heads b S p)) ∧ (∀ k r, r < h → xB s1 c k r = xB s c k r)) 12 (by omega) ?_ ?_ s ⟨⟨rfl, rfl, fun _ _ _ _ => rfl⟩, fun _ q => by omega, fun _ q => by omega, fun _ _ _ => rfl⟩
  rotate_left
  · intro n i s1 hi ⟨⟨eI, eA, eB⟩, h1, h2, h3⟩ ih
    rw [d2_keepRecord_L10, ncl (by omega), ncl (by omega)]
    have b2 : vp_in (nI i) 12 := nin (by omega) (by omega)
    refine br_f (nle (a := 12) hi (by omega)) ⟨b1, b2, b2, ?_⟩
    intro s8 e8
    refine ⟨b1, b2, b2, ?_⟩
    intro s12 e12 v e
    subst e12 e8 e
    rw [nI_1]
    refine ih _ ⟨⟨eI, eA, fun o k r q => by rw [xB_xuB_ne (by omega), xB_xuB_ne (by omega)]; exact eB o k r q⟩, fun p hp => ?_, fun p hp => ?_, uB_lt (uB_lt h3 (by omega)) (by omega)⟩
    · rw [xB_xuB_ne (by omega), xB_xuB_eq, upd_ap]
      split
      · have : p = i := by omega
        subst this; rw [eA]; exact hR.2.2.1 p hi
      · exact h1 p (by omega)
    · rw [xB_xuB_eq, upd_ap]
      split
      · have : p = i := by omega
        subst this; rw [xA_xuB, eA]; exact hH p hi
      · rw [xB_xuB_ne (by omega)]; exact h2 p (by omega)
  intro n s1 ⟨⟨eI, eA, eB⟩, h1, h2, h3⟩
  rw [d2_keepRecord_L10]
  refine br_t (Int32.le_refl _) ?_
  clear n
  refine lp0 (fun n i s2 => d2_keepRecord_L52 c (nI h) (fun s37 => Q s37) Q n (nI i) s2) (fun i s2 => (xI s2 = xI s ∧ xA s2 = xA s ∧ ∀ o k r, ¬ o = c → xB s2 o k r = xB s o k r) ∧ (∀ p, p < 12 → xB s2 c 10 h p = nI (dm S p)) ∧ (∀ p, p < 12 → xB s2 c 11 h p = nI (s_heads b S p)) ∧ (∀ k, k < i → xB s2 c 12 h k = nI (ps S k)) ∧ (∀ k, k < i → xB s2 c 13 h k = nI (up S k)) ∧ (∀ k, k < i → xB s2 c 14 h k = if h < un S k then 1 else 0) ∧ (∀ k, k < i → xB s2 c 15 h k = nI (sc S k)) ∧ (∀ k r, r < h → xB s2 c k r = xB s c k r)) (bm b) (by omega) ?_ ?_ s1 ⟨⟨eI, eA, eB⟩, h1, h2, fun _ q => by omega, fun _ q => by omega, fun _ q => by omega, fun _ q => by omega, h3⟩
  · intro n s2 ⟨⟨eI, eA, eB⟩, g1, g2, g3, g4, g5, g6, g7⟩
    rw [d2_keepRecord_L52, eI, hR.1]
    refine br_t (Int32.le_refl _) (hq s2 ?_ ⟨g1, g2, g3, g4, g5, g6, by rw [eA]; exact h16, by rw [eA]; exact h17⟩ ⟨g7, fun _ _ => by rw [eA], fun _ _ => by rw [eA]⟩ ⟨fun _ _ _ => by rw [eI], fun _ _ _ => by rw [eA], fun o k r q => eB o k r (fun z => by subst z; rw [kwF] at q; cases q)⟩)
    unfold R2
    rw [eI, eA]; exact hR
  · intro n i s2 hi ⟨⟨eI, eA, eB⟩, g1, g2, g3, g4, g5, g6, g7⟩ ih
    rw [d2_keepRecord_L52, ncl (by omega), ncl (by omega), eI, hR.1]
    have b2 : vp_in (nI i) 8 := nin (by omega) (by omega)
    refine br_f (nle hi (by omega)) ⟨b1, b2, b2, ?_⟩
    intro s19 e19
    refine ⟨b1, b2, b2, ?_⟩
    intro s23 e23
    refine ⟨b1, b2, ?_⟩
    have f23 : xA s23 = xA s := by rw [e23, e19]; exact eA
    have key : ∀ w : Int32, w = (if h < un S i then 1 else 0) → (vp_in (nI i) 8 ∧ ∀ s30 : xSt, s30 = xuB s23 c 14 h i w → vp_in (nI h) 20 ∧ vp_in (nI i) 8 ∧ vp_in (nI i) 8 ∧ ∀ s34 : xSt, s34 = xuB s30 c 15 h i (xA s30 c 7 i) → ∀ v35 : Int32, v35 = nI i + 1 → d2_keepRecord_L52 c (nI h) (fun s37 => Q s37) Q n v35 s34) := by
      intro w hw
      refine ⟨b2, ?_⟩
      intro s30 e30
      refine ⟨b1, b2, b2, ?_⟩
      intro s34 e34 v e
      subst e34 e30 e23 e19 e
      rw [nI_1]
      refine ih _ ⟨⟨eI, eA, fun o k r q => by rw [xB_xuB_ne (by omega), xB_xuB_ne (by omega), xB_xuB_ne (by omega), xB_xuB_ne (by omega)]; exact eB o k r q⟩, ?_, ?_, fun k hk => ?_, fun k hk => ?_, fun k hk => ?_, fun k hk => ?_, uB_lt (uB_lt (uB_lt (uB_lt g7 (by omega)) (by omega)) (by omega)) (by omega)⟩
      · rw [xB_xuB_ne (by omega), xB_xuB_ne (by omega), xB_xuB_ne (by omega), xB_xuB_ne (by omega)]; exact g1
      · rw [xB_xuB_ne (by omega), xB_xuB_ne (by omega), xB_xuB_ne (by omega), xB_xuB_ne (by omega)]; exact g2
      · rw [xB_xuB_ne (by omega), xB_xuB_ne (by omega), xB_xuB_ne (by omega), xB_xuB_eq, upd_ap]
        split
        · have : k = i := by omega
          subst this; rw [eA]; exact hR.2.2.2.1 k hi
        · exact g3 k (by omega)
      · rw [xB_xuB_ne (by omega), xB_xuB_ne (by omega), xB_xuB_eq, upd_ap]
        split
        · have : k = i := by omega
          subst this; rw [xA_xuB, eA]; exact hR.2.2.2.2.1 k hi
        · rw [xB_xuB_ne (by omega)]; exact g4 k (by omega)
      · rw [xB_xuB_ne (by omega), xB_xuB_eq, upd_ap]
        split
        · have : k = i := by omega
          subst this; exact hw
        · rw [xB_xuB_ne (by omega), xB_xuB_ne (by omega)]; exact g5 k (by omega)
      · rw [xB_xuB_eq, upd_ap]
        split
        · have : k = i := by omega
          subst this; rw [xA_xuB, xA_xuB, xA_xuB, eA]; exact hR.2.2.2.2.2.2.1 k hi
        · rw [xB_xuB_ne (by omega), xB_xuB_ne (by omega), xB_xuB_ne (by omega)]; exact g6 k (by omega)
    unfold jn
    rw [f23, hO i hi]
    by_cases q : h < un S i
    · rw [if_pos q]
      exact br_f (by decide) (key 1 (if_pos q).symm)
    · rw [if_neg q]
      exact br_t rfl (key 0 (if_neg q).symm)
