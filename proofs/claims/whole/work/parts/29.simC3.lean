set_option maxHeartbeats 4000000 in
theorem l2_stepsOf {so h : Nat} {s : xSt} {Q : Int32 → xSt → Prop} (hs : so ≤ 2) (hh : h < 20) (hq : Q (nI (s_many so h)) s) : d2_stepsOf (nI so) (nI h) s Q := by
  unfold d2_stepsOf
  unfold s_many at hq
  rcases (show so = 0 ∨ so = 1 ∨ so = 2 by omega) with c | c | c
  · subst c
    exact bn_f (by decide) (bn_t rfl hq)
  · subst c
    exact bn_f (by decide) (bn_f (by decide) hq)
  · subst c
    refine bn_t rfl ⟨by decide, ?_⟩
    have e : nI h - nI h / 2 * 2 = nI (h % 2) := pk_rem (d := 2) (by omega) (by omega) (by omega)
    rw [e]
    by_cases d : h % 2 = 0
    · rw [if_neg (by omega), if_neg (by omega), if_pos d] at hq
      exact bn_t (by rw [d]; rfl) hq
    · rw [if_neg (by omega), if_neg (by omega), if_neg d] at hq
      exact bn_f (nne (b := 0) d (by omega) (by omega)) hq
set_option maxHeartbeats 4000000 in
theorem l2_go {c k h N : Nat} {b : Bl} {S : Sm} {s : xSt} {K Q : xSt → Prop} (hb : VB b) (hV : VS b S) (hR : R2 c b S s) (hO : RO c b h S s) (hk : k < bm b) (hN : N ≤ 2) (hq : ∀ s', R2 c b (it (fun _ => s_step b h k) N S) s' → xA s' c 6 = xA s c 6 → xk (kc c) s s' → K s') : d2_letMembersGo_L47 c (nI h) (nI k) (nI N) K Q x_lim 0 s := by
  refine lp0 (fun n i s1 => d2_letMembersGo_L47 c (nI h) (nI k) (nI N) K Q n (nI i) s1) (fun i s1 => (R2 c b (it (fun _ => s_step b h k) i S) s1 ∧ VS b (it (fun _ => s_step b h k) i S) ∧ un (it (fun _ => s_step b h k) i S) = un S) ∧ xA s1 c 6 = xA s c 6 ∧ xk (kc c) s s1) N (by omega) ?_ ?_ s ⟨⟨hR, hV, rfl⟩, rfl, xk.rf⟩
  · intro n s1 ⟨h1, h2, h3⟩
    rw [d2_letMembersGo_L47]
    exact br_t (Int32.le_refl _) (hq s1 h1.1 h2 h3)
  · intro n i s1 hi ⟨⟨h1, h0, hu⟩, h2, h3⟩ ih
    rw [it_succ] at ih
    generalize it (fun _ => s_step b h k) i S = T at h1 h0 hu ih
    rw [d2_letMembersGo_L47]
    refine br_f (nle hi (by omega)) (l2_step hb h0 h1 hk (fun q s' r1 r2 r3 => ?_) (fun q => ?_))
    · have vt : VS b (s_step b h k T) := h0.step hk
      have hp := h0.2.1 k hk
      have g := step_dir hp q
      have e : s_step b h k T = s_pass b h k (s_wt (s_ps T k (if s_less T (ps T k) < s_more T (ps T k) then ps T k + 1 else ps T k - 1)) (wt T ||| (1 <<< (nI k &&& 31)))) := if_pos q
      have hu2 : un (s_step b h k T) = un S := by rw [step_un]; exact hu
      rw [e] at ih vt hu2
      have v1 : VS b (s_wt (s_ps T k (if s_less T (ps T k) < s_more T (ps T k) then ps T k + 1 else ps T k - 1)) (wt T ||| (1 <<< (nI k &&& 31)))) := (h0.ps (by split; exact g.1 (by assumption); omega)).wt
      refine br_f (by decide) (l2_passOver hb v1 r1 (hO.keep hu (r2.trans h2)) hk fun s2 t1 t2 t3 => ?_)
      intro v e1; subst e1
      rw [nI_1]
      exact ih s2 ⟨⟨t1, vt, hu2⟩, t2.trans (r2.trans h2), (h3.tr r3).tr t3⟩
    · have e : s_step b h k T = T := if_neg q
      rw [e] at ih
      refine br_t rfl ?_
      intro v e1; subst e1
      rw [nI_1]
      exact ih s1 ⟨⟨h1, h0, hu⟩, h2, h3⟩
set_option maxHeartbeats 4000000 in
theorem walk_un {b : Bl} {h k : Nat} {S : Sm} : un (s_walk b h k S) = un S := by
  unfold s_walk
  split
  · exact it_inv (fun T => un T = un S) _ _ rfl (fun _ y _ hy => by rw [step_un]; exact hy)
  · rfl
set_option maxHeartbeats 4000000 in
theorem l2_letMembersGo {c h : Nat} {b : Bl} {S : Sm} {s : xSt} {Q : xSt → Prop} (hb : VB b) (hV : VS b S) (hR : R2 c b S s) (hO : RO c b h S s) (hh : h < 20) (hq : ∀ s', R2 c b (s_walks b h S) s' → RO c b h (s_walks b h S) s' → xk (kc c) s s' → Q s') : d2_letMembersGo c (nI h) s Q := by
  have hm := hb.1
  unfold d2_letMembersGo
  refine lp0 (fun n i s1 => d2_letMembersGo_L2 c (nI h) (fun s27 => Q s27) Q n (nI i) s1) (fun i s1 => (R2 c b (it (s_walk b h) i S) s1 ∧ VS b (it (s_walk b h) i S) ∧ un (it (s_walk b h) i S) = un S) ∧ xA s1 c 6 = xA s c 6 ∧ xk (kc c) s s1) (bm b) (by omega) ?_ ?_ s ⟨⟨hR, hV, rfl⟩, rfl, xk.rf⟩
  · intro n s1 ⟨⟨h1, h0, hu⟩, h2, h3⟩
    rw [d2_letMembersGo_L2, h1.1]
    exact br_t (Int32.le_refl _) (hq s1 h1 (hO.keep hu h2) h3)
  · intro n i s1 hi ⟨⟨h1, h0, hu⟩, h2, h3⟩ ih
    rw [it_succ] at ih
    generalize it (s_walk b h) i S = T at h1 h0 hu ih
    have uu := h0.2.2.1 i hi
    have b1 : vp_in (nI i) 8 := nin (by omega) (by omega)
    have vw : VS b (s_walk b h i T) := h0.walk hi
    have wu : un (s_walk b h i T) = un S := by rw [walk_un]; exact hu
    have ro : RO c b h T s1 := hO.keep hu h2
    rw [d2_letMembersGo_L2, h1.1, ncl (by omega), h1.2.2.2.2.1 i hi, ro i hi, h1.2.1 i hi]
    unfold jn
    have stay : ¬ (up T i = 1 ∧ ¬ h < un T i) → d2_letMembersGo_L47 c (nI h) (nI i) 0 (fun s19 => ∀ v20 : Int32, v20 = nI i + 1 → d2_letMembersGo_L2 c (nI h) (fun s27 => Q s27) Q n v20 s19) Q x_lim 0 s1 := fun q => by
      have e : s_walk b h i T = T := if_neg q
      rw [e] at ih
      refine l2_go (N := 0) hb h0 h1 ro hi (by omega) fun s' r1 r2 r3 => ?_
      intro v e1; subst e1
      rw [nI_1]
      exact ih s' ⟨⟨r1, h0, hu⟩, r2.trans h2, h3.tr r3⟩
    refine br_f (nle hi (by omega)) ⟨b1, ?_⟩
    by_cases q : up T i = 1
    · refine bn_t (by rw [q]; rfl) ⟨b1, ?_⟩
      by_cases r : h < un T i
      · rw [if_pos r]
        exact bn_f (by decide) (stay (fun z => z.2 r))
      · rw [if_neg r]
        refine bn_t rfl ⟨b1, l2_stepsOf (hb.2.1 i hi) hh ?_⟩
        have e : s_walk b h i T = it (fun _ => s_step b h i) (s_many (bs b i) h) T := if_pos ⟨q, r⟩
        have hN : s_many (bs b i) h ≤ 2 := by unfold s_many; split; omega; split; omega; split <;> omega
        refine l2_go hb h0 h1 ro hi hN fun s' r1 r2 r3 => ?_
        rw [← e] at r1
        intro v e1; subst e1
        rw [nI_1]
        exact ih s' ⟨⟨r1, vw, wu⟩, r2.trans h2, h3.tr r3⟩
    · refine bn_f (nne (b := 1) q (by omega) (by omega)) (stay (fun z => q z.1))
set_option maxHeartbeats 4000000 in
theorem l6_isPlace {a : Nat} {s : xSt} {Q : Int32 → xSt → Prop} (h : a < 12) (hq : Q 1 s) : d6_isPlace (nI a) s Q := br_f (nI_pos (by omega)) (br_f (nle (a := 12) h (by omega)) hq)
set_option maxHeartbeats 4000000 in
theorem l6_isHour {a : Nat} {s : xSt} {Q : Int32 → xSt → Prop} (h : a < 20) (hq : Q 1 s) : d6_isHour (nI a) s Q := br_f (nI_pos (by omega)) (br_f (nle (a := 20) h (by omega)) hq)
set_option maxHeartbeats 4000000 in
theorem l2_countHeads {c : Nat} {b : Bl} {S : Sm} {s : xSt} {Q : xSt → Prop} (hb : VB b) (hV : VS b S) (hR : R2 c b S s) (hq : ∀ s', R2 c b S s' → (∀ p, p < 12 → xA s' c 1 p = nI (s_heads b S p)) → xA s' c 6 = xA s c 6 → xk (kc c) s s' → Q s') : d2_countHeads c s Q := by
  have hm := hb.1
  unfold d2_countHeads
  refine lp0 (fun n i s1 => d2_countHeads_L2 c _ Q n (nI i) s1) (fun i s1 => R2 c b S s1 ∧ (∀ p, p < i → xA s1 c 1 p = nI 0) ∧ xA s1 c 6 = xA s c 6 ∧ xk (kc c) s s1) 12 (by omega) ?_ ?_ s ⟨hR, fun _ q => by omega, rfl, xk.rf⟩
  rotate_left
  · intro n i s1 hi ⟨h1, h2, h3, h4⟩ ih
    rw [d2_countHeads_L2, ncl (by omega)]
    refine br_f (nle (a := 12) hi (by omega)) ⟨nin (by omega) (by omega), ?_⟩
    intro s3 e3 v e
    subst e3 e
    rw [nI_1]
    refine ih _ ⟨h1.oth (fun _ => by omega), fun p hp => ?_, by rw [xA_xuA_ne (by omega)]; exact h3, h4.uA (kcA (by omega))⟩
    rw [xA_xuA_eq, upd_ap]
    split
    · rfl
    · exact h2 p (by omega)
  intro n s1 ⟨h1, h2, h3, h4⟩
  rw [d2_countHeads_L2]
  refine br_t (Int32.le_refl _) ?_
  clear n
  refine lp0 (fun n i s2 => d2_countHeads_L23 c (fun s17 => Q s17) Q n (nI i) s2) (fun i s2 => R2 c b S s2 ∧ (∀ p, p < 12 → xA s2 c 1 p = nI (it (fun k n => if ps S k = p then n + 1 else n) i 0)) ∧ xA s2 c 6 = xA s c 6 ∧ xk (kc c) s s2) (bm b) (by omega) ?_ ?_ s1 ⟨h1, h2, h3, h4⟩
  · intro n s2 ⟨g1, g2, g3, g4⟩
    rw [d2_countHeads_L23, g1.1]
    exact br_t (Int32.le_refl _) (hq s2 g1 g2 g3 g4)
  · intro n i s2 hi ⟨g1, g2, g3, g4⟩ ih
    have hp := hV.2.1 i hi
    rw [d2_countHeads_L23, g1.1, ncl (by omega), g1.2.2.2.1 i hi]
    refine br_f (nle hi (by omega)) ⟨nin (by omega) (by omega), ?_⟩
    intro v8 e8
    subst e8
    refine l6_isPlace hp (br_f (by decide) ⟨nin hp (by omega), nin hp (by omega), ?_⟩)
    intro s15 e15 v e
    subst e15 e
    rw [nI_1, ncl (by omega), g2 _ hp]
    refine ih _ ⟨g1.oth (fun _ => by omega), fun p hp2 => ?_, by rw [xA_xuA_ne (by omega)]; exact g3, g4.uA (kcA (by omega))⟩
    rw [xA_xuA_eq, upd_ap, it_succ]
    by_cases q : p = ps S i
    · rw [if_pos q, if_pos q.symm, nI_1, q]
    · rw [if_neg q, if_neg (fun z => q z.symm)]; exact g2 p hp2
set_option maxHeartbeats 4000000 in
theorem l2_dry {c : Nat} {b : Bl} {S : Sm} {s : xSt} {Q : xSt → Prop} (hb : VB b) (hV : VS b S) (hR : R2 c b S s) (hH : ∀ p, p < 12 → xA s c 1 p = nI (s_heads b S p)) (hq : ∀ s', R2 c b (s_dry b S) s' → (∀ p, p < 12 → xA s' c 1 p = nI (s_heads b S p)) → xA s' c 6 = xA s c 6 → xk (kc c) s s' → Q s') : d2_dryCrowdedPlaces c s Q := by
  have hm := hb.1
  unfold d2_dryCrowdedPlaces
  refine lp0 (fun n i s1 => d2_dryCrowdedPlaces_L2 c (fun s12 => Q s12) Q n (nI i) s1) (fun i s1 => (R2 c b (it (fun p T => s_dm T p (if 2 < s_heads b T p then dm T p - 1 else dm T p)) i S) s1 ∧ VS b (it (fun p T => s_dm T p (if 2 < s_heads b T p then dm T p - 1 else dm T p)) i S)) ∧ (∀ p, p < 12 → xA s1 c 1 p = nI (s_heads b S p)) ∧ xA s1 c 6 = xA s c 6 ∧ xk (kc c) s s1) 12 (by omega) ?_ ?_ s ⟨⟨hR, hV⟩, hH, rfl, xk.rf⟩
  · intro n s1 ⟨h1, h2, h3, h4⟩
    rw [d2_dryCrowdedPlaces_L2]
    exact br_t (Int32.le_refl _) (hq s1 h1.1 h2 h3 h4)
  · intro n i s1 hi ⟨⟨h1, h0⟩, h2, h3, h4⟩ ih
    have ep := dry_ps (b := b) (S := S) i
    rw [it_succ] at ih
    generalize it (fun p T => s_dm T p (if 2 < s_heads b T p then dm T p - 1 else dm T p)) i S = T at h1 h0 ih ep
    have hd := h0.1 i hi
    have hle : s_heads b T i ≤ 8 := Nat.le_trans (heads_le b T i (bm b)) hm
    have eh : s_heads b S i = s_heads b T i := heads_ps ep.symm i
    rw [d2_dryCrowdedPlaces_L2, ncl (by omega), h2 i hi, eh, h1.2.2.1 i hi]
    have b1 : vp_in (nI i) 12 := nin hi (by omega)
    refine br_f (nle (a := 12) hi (by omega)) ⟨b1, ?_⟩
    by_cases q : 2 < s_heads b T i
    · rw [if_pos q] at ih
      refine br_f (nlt (b := 3) (by omega) (by omega)) ⟨b1, ?_⟩
      by_cases r : dm T i = 0
      · have e : s_dm T i (dm T i - 1) = T := by rw [r]; have := s_dm_id T i; rw [r] at this; exact this
        rw [e] at ih
        refine br_t (by rw [r]; decide) ?_
        intro v e1; subst e1
        rw [nI_1]
        exact ih s1 ⟨⟨h1, h0⟩, h2, h3, h4⟩
      · refine br_f (nI_nle (by omega) (by omega)) ⟨b1, b1, ?_⟩
        intro s10 e10 v e1
        subst e10 e1
        rw [nI_1]
        refine ih _ ⟨⟨h1.dm i (by rw [l_1, pk_sub (by omega)]), h0.dm (by omega)⟩, ?_, by rw [xA_xuA_ne (by omega)]; exact h3, h4.uA (kcA (by omega))⟩
        rw [xA_xuA_ne (by omega)]; exact h2
    · rw [if_neg q, s_dm_id] at ih
      refine br_t (nI_lt (b := 3) (by omega) (by omega)) ?_
      intro v e1; subst e1
      rw [nI_1]
      exact ih s1 ⟨⟨h1, h0⟩, h2, h3, h4⟩
