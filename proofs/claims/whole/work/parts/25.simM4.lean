/-- the reference's events of now are those of b: e of ne but those that are not to be -/
def E7 (b : Bl) (s : xSt) : Prop := ∃ (ne : Nat) (g : Nat → Ev) (sk : Nat → Bool), ne ≤ 9 ∧ xI s 13 12 = nI ne ∧ (∀ e, e < ne → xA s 13 13 e = nI (g e).1 ∧ xA s 13 14 e = nI (g e).2.1 ∧ xA s 13 15 e = nI (g e).2.2) ∧ (∀ e, e < ne → ((xI s 13 16 >>> (nI e &&& 31)) &&& 1 = 1 ↔ sk e = true)) ∧ be b = ((List.range ne).filter (fun e => !sk e)).map g ∧ (∀ e, e < ne → (g e).1 < 4 ∧ (g e).2.1 < 20 ∧ (g e).2.2 < 12)
set_option maxHeartbeats 4000000 in
theorem E7.keep {b : Bl} {s s1 : xSt} (h : E7 b s) (k : xk kr7 s s1) : E7 b s1 := by
  obtain ⟨ne, g, sk, h1, h2, h3, h4, h5, h6⟩ := h
  exact ⟨ne, g, sk, h1, by rw [k.1 13 12 rfl]; exact h2, by rw [k.2.1 13 13 rfl, k.2.1 13 14 rfl, k.2.1 13 15 rfl]; exact h3, by rw [k.1 13 16 rfl]; exact h4, h5, h6⟩
set_option maxHeartbeats 4000000 in
theorem fold_more {α : Type} (f : α → Ev → α) (g : Nat → Ev) (sk : Nat → Bool) (x : α) (i : Nat) : (((List.range (i + 1)).filter (fun e => !sk e)).map g).foldl f x = if sk i = true then (((List.range i).filter (fun e => !sk e)).map g).foldl f x else f ((((List.range i).filter (fun e => !sk e)).map g).foldl f x) (g i) := by
  rw [List.range_succ, List.filter_append, List.map_append, List.foldl_append]
  cases h : sk i
  · simp [h]
  · simp [h]
set_option maxHeartbeats 4000000 in
theorem l7_events {b : Bl} {h : Nat} {S : Sm} {s : xSt} {Q K : xSt → Prop} (hb : VB b) (hV : VS b S) (hR : R7 b S s) (hE : E7 b s) (hh : h < 20) (hq : ∀ s', R7 b (s_evs b h S) s' → xk kp7 s s' → K s') : d7_goesBy_L2 (nI h) K Q x_lim 0 s := by
  obtain ⟨ne, g, sk, g1, g2, g3, g4, g5, g6⟩ := hE
  unfold s_evs at hq
  rw [g5] at hq
  refine lp0 (fun n i s1 => d7_goesBy_L2 (nI h) K Q n (nI i) s1) (fun i s1 => (R7 b ((((List.range i).filter (fun e => !sk e)).map g).foldl (s_ev b h) S) s1 ∧ VS b ((((List.range i).filter (fun e => !sk e)).map g).foldl (s_ev b h) S)) ∧ xk kp7 s s1) ne (by omega) ?_ ?_ s ⟨⟨hR, hV⟩, xk.rf⟩
  · intro n s1 ⟨h1, h2⟩
    rw [d7_goesBy_L2, h2.1 13 12 rfl, g2]
    exact br_t (Int32.le_refl _) (hq s1 h1.1 h2)
  · intro n i s1 hi ⟨⟨h1, h0⟩, h2⟩ ih
    rw [fold_more] at ih
    generalize (((List.range i).filter (fun e => !sk e)).map g).foldl (s_ev b h) S = T at h1 h0 ih
    obtain ⟨k1, k2, k3⟩ := g3 i hi
    obtain ⟨v1, v2, v3⟩ := g6 i hi
    rw [d7_goesBy_L2, h2.1 13 12 rfl, g2, ncl (by omega), h2.2.1 13 14 rfl, k2]
    refine br_f (nle hi (by omega)) ⟨nin (by omega) (by omega), ?_⟩
    by_cases c : (g i).2.1 = h
    · refine bn_t (by rw [c]) ?_
      unfold d7_isIn
      rw [h2.1 13 16 rfl]
      by_cases d : sk i = true
      · rw [if_pos d] at ih
        refine bn_t ((g4 i hi).mpr d) (bn_f (by decide) ?_)
        intro v e; subst e
        rw [nI_1]
        exact ih s1 ⟨⟨h1, h0⟩, h2⟩
      · rw [if_neg d] at ih
        refine bn_f (fun q => d ((g4 i hi).mp q)) (bn_t rfl ?_)
        refine l7_befalls hb h0 h1 (by omega) ⟨v1, c, v3⟩ (by rw [h2.2.1 13 13 rfl]; exact k1) (by rw [h2.2.1 13 14 rfl]; exact k2) (by rw [h2.2.1 13 15 rfl]; exact k3) fun s' r1 r2 => ?_
        intro v e; subst e
        rw [nI_1]
        exact ih s' ⟨⟨r1, h0.ev hb hh⟩, h2.tr r2⟩
    · refine bn_f (nne c (by omega) (by omega)) ?_
      intro v e; subst e
      rw [nI_1]
      have e0 : s_ev b h T (g i) = T := if_neg c
      rw [e0] at ih
      split at ih <;> exact ih s1 ⟨⟨h1, h0⟩, h2⟩
set_option maxHeartbeats 4000000 in
theorem l7_allWalk {b : Bl} {h : Nat} {S : Sm} {s : xSt} {Q K : xSt → Prop} (hb : VB b) (hV : VS b S) (hR : R7 b S s) (hh : h < 20) (hq : ∀ s', R7 b (s_walks b h S) s' → xk kp7 s s' → K s') : d7_goesBy_L44 (nI h) K Q x_lim 0 s := by
  have hm := hb.1
  refine lp0 (fun n i s1 => d7_goesBy_L44 (nI h) K Q n (nI i) s1) (fun i s1 => (R7 b (it (s_walk b h) i S) s1 ∧ VS b (it (s_walk b h) i S)) ∧ xk kp7 s s1) (bm b) (by omega) ?_ ?_ s ⟨⟨hR, hV⟩, xk.rf⟩
  · intro n s1 ⟨h1, h2⟩
    rw [d7_goesBy_L44, h1.1.1]
    exact br_t (Int32.le_refl _) (hq s1 h1.1 h2)
  · intro n i s1 hi ⟨⟨h1, h0⟩, h2⟩ ih
    rw [d7_goesBy_L44, h1.1]
    refine br_f (nle hi (by omega)) (l7_walks hb h0 h1 hi hh fun s' r1 r2 => ?_)
    intro v e; subst e
    rw [nI_1]
    exact ih s' ⟨⟨r1, h0.walk hi⟩, h2.tr r2⟩
def ka7 (t o k : Nat) : Bool := !(o == 13 && t == 1 && decide (24 ≤ k) && decide (k ≤ 26))
set_option maxHeartbeats 4000000 in
theorem ka7_r {s s1 : xSt} (h : xk ka7 s s1) : xk kr7 s s1 := h.mono (fun t o k q => by
  unfold kr7 at q
  unfold ka7
  simp only [Bool.not_eq_true', Bool.and_eq_false_iff, Bool.or_eq_false_iff, decide_eq_false_iff_not] at q ⊢
  rcases q with q | ⟨q1, q2⟩
  · exact Or.inl (Or.inl (Or.inl q))
  · rcases q1 with (q1 | q1) | q1
    · exact Or.inl (Or.inl (Or.inr q1))
    · exact Or.inl (Or.inr (by omega))
    · exact Or.inr (by omega))
set_option maxHeartbeats 4000000 in
theorem upd_lt {f g : Nat → Int32} {N k : Nat} {v : Int32} (h : ∀ j, j < N → f j = g j) (hk : N ≤ k) : ∀ j, j < N → upd f k v j = g j := fun j hj => by rw [upd_ne (by omega)]; exact h j hj
set_option maxHeartbeats 4000000 in
theorem l7_recA {b : Bl} {h : Nat} {S : Sm} {s : xSt} {Q K : xSt → Prop} (hb : VB b) (hR : R7 b S s) (hh : h < 20) (hq : ∀ s', R7 b S s' → (∀ k, k < bm b → xA s' 13 24 (8 * h + k) = nI (ps S k)) → (∀ k, k < bm b → xA s' 13 25 (8 * h + k) = nI (up S k)) → (∀ k, k < bm b → xA s' 13 26 (8 * h + k) = nI (sc S k)) → rk7 h s s' → xk ka7 s s' → K s') : d7_goesBy_L66 (nI h) K Q x_lim 0 s := by
  have hm := hb.1
  refine lp0 (fun n i s1 => d7_goesBy_L66 (nI h) K Q n (nI i) s1) (fun i s1 => R7 b S s1 ∧ (∀ k, k < i → xA s1 13 24 (8 * h + k) = nI (ps S k)) ∧ (∀ k, k < i → xA s1 13 25 (8 * h + k) = nI (up S k)) ∧ (∀ k, k < i → xA s1 13 26 (8 * h + k) = nI (sc S k)) ∧ rk7 h s s1 ∧ xk ka7 s s1) (bm b) (by omega) ?_ ?_ s ⟨hR, fun _ q => by omega, fun _ q => by omega, fun _ q => by omega, rk7.rf, xk.rf⟩
  · intro n s1 ⟨h1, h2, h3, h4, h5, h6⟩
    rw [d7_goesBy_L66, h1.1]
    exact br_t (Int32.le_refl _) (hq s1 h1 h2 h3 h4 h5 h6)
  · intro n i s1 hi ⟨h1, h2, h3, h4, h5, h6⟩ ih
    have e : (8 : Int32) * nI h + nI i = nI (8 * h + i) := by rw [l_8, pk_mul, nI_add]
    rw [d7_goesBy_L66, h1.1, e, ncl (by omega), ncl (by omega), h1.2.2.2.1 i hi]
    have b1 : vp_in (nI i) 8 := nin (by omega) (by omega)
    have b2 : vp_in (nI (8 * h + i)) 160 := nin (by omega) (by omega)
    refine br_f (nle hi (by omega)) ⟨b1, b2, ?_⟩
    intro s19 e19
    refine ⟨b1, b2, ?_⟩
    intro s22 e22
    refine ⟨b1, b2, ?_⟩
    intro s25 e25 v e
    subst e
    rw [nI_1]
    have r19 : R7 b S s19 := by rw [e19]; exact h1.oth (by decide)
    have r22 : R7 b S s22 := by rw [e22]; exact r19.oth (by decide)
    rw [r19.2.2.2.2.1 i hi] at e22
    rw [r22.2.2.2.2.2.2.1 i hi] at e25
    subst e25 e22 e19
    obtain ⟨q1, q2, q3, q4, q5, q6, q7⟩ := h5
    refine ih _ ⟨r22.oth (by decide), ?_, ?_, ?_, ⟨?_, ?_, ?_, ?_, ?_, ?_, ?_⟩, ((h6.uA rfl).uA rfl).uA rfl⟩
    · intro k hk
      rw [xA_xuA_ne (by decide), xA_xuA_ne (by decide), xA_xuA_eq, upd_ap]
      split
      · have : k = i := by omega
        subst this; rfl
      · exact h2 k (by omega)
    · intro k hk
      rw [xA_xuA_ne (by decide), xA_xuA_eq, upd_ap]
      split
      · have : k = i := by omega
        subst this; rfl
      · rw [xA_xuA_ne (by decide)]; exact h3 k (by omega)
    · intro k hk
      rw [xA_xuA_eq, upd_ap]
      split
      · have : k = i := by omega
        subst this; rfl
      · rw [xA_xuA_ne (by decide), xA_xuA_ne (by decide)]; exact h4 k (by omega)
    · rw [xA_xuA_ne (by decide), xA_xuA_ne (by decide), xA_xuA_eq]; exact upd_lt q1 (by omega)
    · rw [xA_xuA_ne (by decide), xA_xuA_eq, xA_xuA_ne (by decide)]; exact upd_lt q2 (by omega)
    · rw [xA_xuA_eq, xA_xuA_ne (by decide), xA_xuA_ne (by decide)]; exact upd_lt q3 (by omega)
    · rw [xA_xuA_ne (by decide), xA_xuA_ne (by decide), xA_xuA_ne (by decide)]; exact q4
    · rw [xA_xuA_ne (by decide), xA_xuA_ne (by decide), xA_xuA_ne (by decide)]; exact q5
    · rw [xA_xuA_ne (by decide), xA_xuA_ne (by decide), xA_xuA_ne (by decide)]; exact q6
    · rw [xA_xuA_ne (by decide), xA_xuA_ne (by decide), xA_xuA_ne (by decide)]; exact q7
def kb7 (t o k : Nat) : Bool := !(o == 13 && t == 1 && (k == 17 || k == 23))
set_option maxHeartbeats 4000000 in
theorem kb7_r {s s1 : xSt} (h : xk kb7 s s1) : xk kr7 s s1 := h.mono (fun t o k q => by
  unfold kr7 at q
  unfold kb7
  simp only [Bool.not_eq_true', Bool.and_eq_false_iff, Bool.or_eq_false_iff, decide_eq_false_iff_not, beq_eq_false_iff_ne] at q ⊢
  rcases q with q | ⟨q1, q2⟩
  · exact Or.inl (Or.inl q)
  · rcases q1 with (q1 | q1) | q1
    · exact Or.inl (Or.inr q1)
    · exact Or.inr ⟨by omega, by omega⟩
    · exact Or.inr ⟨by omega, by omega⟩)
set_option maxHeartbeats 4000000 in
theorem dry_ps {b : Bl} {S : Sm} (i : Nat) : ps (it (fun p T => s_dm T p (if 2 < s_heads b T p then dm T p - 1 else dm T p)) i S) = ps S := it_inv (fun T => ps T = ps S) i S rfl (fun _ y _ hy => hy)
set_option maxHeartbeats 4000000 in
theorem heads_ps {b : Bl} {S T : Sm} (h : ps S = ps T) (p : Nat) : s_heads b S p = s_heads b T p := by unfold s_heads; rw [h]
set_option maxHeartbeats 4000000 in
theorem l7_recB {b : Bl} {h : Nat} {S : Sm} {s : xSt} {Q K : xSt → Prop} (hb : VB b) (hV : VS b S) (hR : R7 b S s) (hh : h < 20) (h24 : ∀ k, k < bm b → xA s 13 24 (8 * h + k) = nI (ps S k)) (hq : ∀ s', R7 b (s_dry b S) s' → (∀ p, p < 12 → xA s' 13 23 (12 * h + p) = nI (dm (s_dry b S) p)) → (∀ j, j < 12 * h → xA s' 13 23 j = xA s 13 23 j) → xk kb7 s s' → K s') : d7_goesBy_L133 (nI h) K Q x_lim 0 s := by
  have hm := hb.1
  refine lp0 (fun n i s1 => d7_goesBy_L133 (nI h) K Q n (nI i) s1) (fun i s1 => (R7 b (it (fun p T => s_dm T p (if 2 < s_heads b T p then dm T p - 1 else dm T p)) i S) s1 ∧ VS b (it (fun p T => s_dm T p (if 2 < s_heads b T p then dm T p - 1 else dm T p)) i S)) ∧ (∀ p, p < i → xA s1 13 23 (12 * h + p) = nI (dm (it (fun p T => s_dm T p (if 2 < s_heads b T p then dm T p - 1 else dm T p)) i S) p)) ∧ (∀ j, j < 12 * h → xA s1 13 23 j = xA s 13 23 j) ∧ xk kb7 s s1) 12 (by omega) ?_ ?_ s ⟨⟨hR, hV⟩, fun _ q => by omega, fun _ _ => rfl, xk.rf⟩
  · intro n s1 ⟨h1, h2, h3, h4⟩
    rw [d7_goesBy_L133]
    exact br_t (Int32.le_refl _) (hq s1 h1.1 h2 h3 h4)
  · intro n i s1 hi ⟨⟨h1, h0⟩, h2, h3, h4⟩ ih
    have e : (12 : Int32) * nI h + nI i = nI (12 * h + i) := by rw [l_12, pk_mul, nI_add]
    have ep := dry_ps (b := b) (S := S) i
    rw [it_succ] at ih
    generalize it (fun p T => s_dm T p (if 2 < s_heads b T p then dm T p - 1 else dm T p)) i S = T at h1 h0 h2 ih ep
    have hd := h0.1 i hi
    rw [d7_goesBy_L133, e, ncl (by omega), ncl (by omega)]
    have b1 : vp_in (nI i) 12 := nin (by omega) (by omega)
    have b2 : vp_in (nI (12 * h + i)) 240 := nin (by omega) (by omega)
    refine br_f (nle (a := 12) hi (by omega)) ⟨b1, ?_⟩
    refine l7_manyAt hb h0 hh hi h1.1 (fun k hk => by rw [h4.2.1 13 24 rfl, ep]; exact h24 k hk) ?_
    rw [h1.2.2.1 i hi]
    unfold jn
    have hle : s_heads b T i ≤ 8 := Nat.le_trans (heads_le b T i (bm b)) hm
    have key : ∀ v, nI (dm T i) - v = nI (if 2 < s_heads b T i then dm T i - 1 else dm T i) → (vp_in (nI i) 12 ∧ ∀ s38 : xSt, s38 = xuA s1 13 17 i (nI (dm T i) - v) → vp_in (nI i) 12 ∧ vp_in (nI (12 * h + i)) 240 ∧ ∀ s41 : xSt, s41 = xuA s38 13 23 (12 * h + i) (xA s38 13 17 i) → ∀ v42 : Int32, v42 = nI i + 1 → d7_goesBy_L133 (nI h) K Q n v42 s41) := by
      intro v hv
      rw [hv]
      have vw : (if 2 < s_heads b T i then dm T i - 1 else dm T i) ≤ 9 := by split <;> omega
      generalize (if 2 < s_heads b T i then dm T i - 1 else dm T i) = w at hv ih vw
      refine ⟨b1, ?_⟩
      intro s38 e38
      refine ⟨b1, b2, ?_⟩
      intro s41 e41 v42 e42
      subst e42
      rw [nI_1]
      have r38 : R7 b (s_dm T i w) s38 := by rw [e38]; exact h1.dm i rfl
      have e5 : xA s38 13 17 i = nI w := by rw [e38, xA_xuA_eq, upd_eq]
      rw [e5] at e41
      subst e41 e38
      refine ih _ ⟨⟨r38.oth (by decide), h0.dm vw⟩, ?_, ?_, (h4.uA rfl).uA rfl⟩
      · intro p hp
        rw [xA_xuA_eq, upd_ap]
        split
        · have : p = i := by omega
          subst this
          show _ = nI (fu _ _ _ _)
          rw [fu_eq]
        · rw [xA_xuA_ne (by decide)]
          show _ = nI (fu _ _ _ _)
          rw [fu_ne (by omega)]
          exact h2 p (by omega)
      · rw [xA_xuA_eq, xA_xuA_ne (by decide)]; exact upd_lt h3 (by omega)
    by_cases c : 2 < s_heads b T i
    · refine br_f (nle (b := 2) c (by omega)) ⟨b1, ?_⟩
      by_cases d : dm T i = 0
      · exact br_t (by rw [d]; decide) (key 0 (by rw [if_pos c, d]; rfl))
      · refine br_f (nle (b := 0) (by omega) (by omega)) (key 1 ?_)
        rw [if_pos c, l_1, pk_sub (by omega)]
    · refine br_t (nI_le (b := 2) (by omega) (by omega)) (key 0 ?_)
      rw [if_neg c, l_0, pk_sub (by omega)]; rfl
