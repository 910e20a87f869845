set_option maxHeartbeats 4000000 in
theorem it_succ {α : Type} (f : Nat → α → α) (n : Nat) (x : α) : it f (n + 1) x = f n (it f n x) := rfl
set_option maxHeartbeats 4000000 in
theorem l7_walksL {b : Bl} {h k N : Nat} {S : Sm} {s : xSt} {Q K : xSt → Prop} (hb : VB b) (hV : VS b S) (hR : R7 b S s) (hk : k < bm b) (hh : h < 20) (hN : N ≤ 2) (hc : up S k = 1 ∧ ¬ h < un S k) (hq : ∀ s', R7 b (it (fun _ => s_step b h k) N S) s' → xk kp7 s s' → K s') : d7_walks_L38 (nI k) (nI h) (nI N) K Q x_lim 0 s := by
  have hm := hb.1
  refine lp0 (fun n i s1 => d7_walks_L38 (nI k) (nI h) (nI N) K Q n (nI i) s1) (fun i s1 => (R7 b (it (fun _ => s_step b h k) i S) s1 ∧ VS b (it (fun _ => s_step b h k) i S) ∧ up (it (fun _ => s_step b h k) i S) k = 1 ∧ un (it (fun _ => s_step b h k) i S) = un S) ∧ xk kp7 s s1) N (by omega) ?_ ?_ s ⟨⟨hR, hV, hc.1, rfl⟩, xk.rf⟩
  · intro n s1 ⟨h1, h2⟩
    rw [d7_walks_L38]
    exact br_t (Int32.le_refl _) (hq s1 h1.1 h2)
  · intro n i s1 hi ⟨⟨h1, h0, hu, hn⟩, h2⟩ ih
    rw [d7_walks_L38, ncl (by omega), h1.2.2.2.2.1 k hk, hu]
    refine br_f (nle hi (by omega)) ⟨nin (by omega) (by omega), bn_t rfl ?_⟩
    refine l7_isRolled hb h0 h1 hk hh (fun _ => bn_t rfl ?_) (fun g => absurd g (by rw [hn]; exact hc.2))
    refine l7_steps hb h0 h1 hk hh fun s' r1 r2 => ?_
    intro v e
    subst e
    rw [nI_1]
    exact ih _ ⟨⟨r1, h0.step hk, by rw [it_succ, step_up]; exact hu, by rw [it_succ, step_un]; exact hn⟩, h2.tr r2⟩
set_option maxHeartbeats 4000000 in
theorem l7_walks {b : Bl} {h k : Nat} {S : Sm} {s : xSt} {Q : xSt → Prop} (hb : VB b) (hV : VS b S) (hR : R7 b S s) (hk : k < bm b) (hh : h < 20) (hq : ∀ s', R7 b (s_walk b h k S) s' → xk kp7 s s' → Q s') : d7_walks (nI k) (nI h) s Q := by
  have hm := hb.1
  have hs := hb.2.1 k hk
  have hu := hV.2.2.1 k hk
  have hn := hV.2.2.2 k hk
  unfold d7_walks jn
  rw [ncl (by omega), hR.2.1 k hk]
  refine ⟨nin (by omega) (by omega), ?_⟩
  have key : d7_walks_L38 (nI k) (nI h) (nI (s_many (bs b k) h)) (fun s17 => Q s17) Q x_lim 0 s := by
    have hN : s_many (bs b k) h ≤ 2 := by unfold s_many; split; omega; split; omega; split <;> omega
    by_cases hc : up S k = 1 ∧ ¬ h < un S k
    · have e : s_walk b h k S = it (fun _ => s_step b h k) (s_many (bs b k) h) S := if_pos hc
      rw [e] at hq
      exact l7_walksL hb hV hR hk hh hN hc hq
    · have e : s_walk b h k S = S := if_neg hc
      rw [e] at hq
      show d7_walks_L38 (nI k) (nI h) (nI (s_many (bs b k) h)) (fun s17 => Q s17) Q (999 + 1) 0 s
      rw [d7_walks_L38, ncl (by omega), hR.2.2.2.2.1 k hk]
      refine ⟨fun _ => hq s hR xk.rf, fun _ => ⟨nin (by omega) (by omega), ?_⟩⟩
      by_cases c : up S k = 1
      · refine bn_t (by rw [c]; rfl) ?_
        refine l7_isRolled hb hV hR hk hh (fun g => absurd ⟨c, g⟩ hc) (fun g => bn_f (by decide) (hq s hR xk.rf))
      · exact bn_f (nne (b := 1) c (by omega) (by omega)) (hq s hR xk.rf)
  unfold s_many at key
  rcases (show bs b k = 0 ∨ bs b k = 1 ∨ bs b k = 2 by omega) with c | c | c
  · rw [c] at key ⊢
    exact bn_t rfl key
  · rw [c] at key ⊢
    exact bn_f (by decide) ⟨nin (by omega) (by omega), br_t rfl key⟩
  · rw [c] at key ⊢
    refine bn_f (by decide) ⟨nin (by omega) (by omega), br_f (by decide) ⟨by decide, ?_⟩⟩
    have e : nI h - nI h / 2 * 2 = nI (h % 2) := pk_rem (d := 2) (by omega) (by omega) (by omega)
    rw [e]
    by_cases d : h % 2 = 0
    · rw [if_neg (by omega), if_neg (by omega), if_pos d] at key
      exact bn_t (by rw [d]; rfl) key
    · rw [if_neg (by omega), if_neg (by omega), if_neg d] at key
      exact bn_f (nne (b := 0) d (by omega) (by omega)) key
set_option maxHeartbeats 4000000 in
theorem heads_le (b : Bl) (S : Sm) (p : Nat) : ∀ n, it (fun k n => if ps S k = p then n + 1 else n) n 0 ≤ n := by
  intro n
  induction n with
  | zero => exact Nat.le_refl _
  | succ n ih => rw [it_succ]; split <;> omega
set_option maxHeartbeats 4000000 in
theorem l7_manyAt {b : Bl} {h p : Nat} {S : Sm} {s : xSt} {Q : Int32 → xSt → Prop} (hb : VB b) (hV : VS b S) (hh : h < 20) (hp : p < 12) (h4 : xI s 13 4 = nI (bm b)) (hr : ∀ k, k < bm b → xA s 13 24 (8 * h + k) = nI (ps S k)) (hq : Q (nI (s_heads b S p)) s) : d7_manyAt (nI h) (nI p) s Q := by
  have hm := hb.1
  unfold d7_manyAt
  refine lp0 (fun n i (w : Nat) => d7_manyAt_L5 (nI h) (nI p) (fun v10 s9 => Q v10 s9) Q n (nI w) (nI i) s) (fun i w => w = it (fun k n => if ps S k = p then n + 1 else n) i 0) (bm b) (by omega) ?_ ?_ 0 rfl
  · intro n w hw
    subst hw
    rw [d7_manyAt_L5, h4]
    exact br_t (Int32.le_refl _) hq
  · intro n i w hi hw ih
    subst hw
    have g := hV.2.1 i hi
    have e : (8 : Int32) * nI h + nI i = nI (8 * h + i) := by rw [l_8, pk_mul, nI_add]
    rw [d7_manyAt_L5, h4, e, ncl (by omega), hr i hi]
    refine br_f (nle hi (by omega)) ⟨nin (by omega) (by omega), ?_⟩
    unfold jn
    by_cases c : ps S i = p
    · refine bn_t (by rw [c]) ?_
      intro v6 e6 v7 e7
      subst e6 e7
      rw [nI_1, nI_1]
      exact ih _ (by rw [it_succ, if_pos c])
    · refine bn_f (nne c (by omega) (by omega)) ?_
      intro v6 e6 v7 e7
      subst e6 e7
      rw [nI_1, l_0, nI_add]
      exact ih _ (by rw [it_succ, if_neg c]; rfl)
def s_rb (b : Bl) (h : Nat) (S : Sm) : Int32 := it (fun k w => w ||| (if h < un S k then 1 <<< (nI k &&& 31) else 0)) (bm b) 0
/-- row h of the reference's records holds a state -/
def T7 (b : Bl) (h : Nat) (S : Sm) (s : xSt) : Prop := (∀ k, k < bm b → xA s 13 24 (8 * h + k) = nI (ps S k)) ∧ (∀ k, k < bm b → xA s 13 25 (8 * h + k) = nI (up S k)) ∧ (∀ k, k < bm b → xA s 13 26 (8 * h + k) = nI (sc S k)) ∧ (∀ p, p < 12 → xA s 13 23 (12 * h + p) = nI (dm S p)) ∧ xA s 13 27 h = s_rb b h S ∧ xA s 13 28 h = nI (s_ayes b h S) ∧ xA s 13 29 h = nI (s_noes b h S)
/-- rows ahead of h stay -/
def rk7 (h : Nat) (s s1 : xSt) : Prop := (∀ j, j < 8 * h → xA s1 13 24 j = xA s 13 24 j) ∧ (∀ j, j < 8 * h → xA s1 13 25 j = xA s 13 25 j) ∧ (∀ j, j < 8 * h → xA s1 13 26 j = xA s 13 26 j) ∧ (∀ j, j < 12 * h → xA s1 13 23 j = xA s 13 23 j) ∧ (∀ j, j < h → xA s1 13 27 j = xA s 13 27 j) ∧ (∀ j, j < h → xA s1 13 28 j = xA s 13 28 j) ∧ (∀ j, j < h → xA s1 13 29 j = xA s 13 29 j)
set_option maxHeartbeats 4000000 in
theorem rk7.rf {h : Nat} {s : xSt} : rk7 h s s := ⟨fun _ _ => rfl, fun _ _ => rfl, fun _ _ => rfl, fun _ _ => rfl, fun _ _ => rfl, fun _ _ => rfl, fun _ _ => rfl⟩
set_option maxHeartbeats 4000000 in
theorem rk7.tr {h : Nat} {a b c : xSt} (p : rk7 h a b) (q : rk7 h b c) : rk7 h a c := ⟨fun j g => (q.1 j g).trans (p.1 j g), fun j g => (q.2.1 j g).trans (p.2.1 j g), fun j g => (q.2.2.1 j g).trans (p.2.2.1 j g), fun j g => (q.2.2.2.1 j g).trans (p.2.2.2.1 j g), fun j g => (q.2.2.2.2.1 j g).trans (p.2.2.2.2.1 j g), fun j g => (q.2.2.2.2.2.1 j g).trans (p.2.2.2.2.2.1 j g), fun j g => (q.2.2.2.2.2.2 j g).trans (p.2.2.2.2.2.2 j g)⟩
/-- what a whole run changes -/
def kr7 (t o k : Nat) : Bool := !(o == 13 && ((t == 1 && decide (17 ≤ k) && decide (k ≤ 29)) || (t == 0 && k == 22)))
set_option maxHeartbeats 4000000 in
theorem kp7_r {s s1 : xSt} (h : xk kp7 s s1) : xk kr7 s s1 := h.mono (fun t o k q => by
  unfold kr7 at q
  unfold kp7
  simp only [Bool.not_eq_true', Bool.and_eq_false_iff, Bool.or_eq_false_iff, decide_eq_false_iff_not] at q ⊢
  rcases q with q | ⟨q1, q2⟩
  · exact Or.inl q
  · refine Or.inr ⟨?_, q2⟩
    rcases q1 with (q1 | q1) | q1
    · exact Or.inl (Or.inl q1)
    · exact Or.inl (Or.inr q1)
    · exact Or.inr (by omega))
set_option maxHeartbeats 4000000 in
theorem R7.oth {b : Bl} {S : Sm} {s : xSt} (h : R7 b S s) {k j : Nat} {v : Int32} (hk : ¬ k = 5 ∧ ¬ (17 ≤ k ∧ k ≤ 21)) : R7 b S (xuA s 13 k j v) := by
  obtain ⟨h1, h2, h3, h4, h5, h6, h7, h8⟩ := h
  exact ⟨h1, by rw [xA_xuA_ne (by omega)]; exact h2, by rw [xA_xuA_ne (by omega)]; exact h3, by rw [xA_xuA_ne (by omega)]; exact h4, by rw [xA_xuA_ne (by omega)]; exact h5, by rw [xA_xuA_ne (by omega)]; exact h6, by rw [xA_xuA_ne (by omega)]; exact h7, h8⟩
set_option maxHeartbeats 4000000 in
theorem s_dm_id (T : Sm) (p : Nat) : s_dm T p (dm T p) = T := by
  have : fu (dm T) p (dm T p) = dm T := by
    funext j
    rw [fu_ap]
    split
    · rename_i q; rw [q]
    · rfl
  show (_, _) = _
  rw [this]; rfl
def kd7 (t o k : Nat) : Bool := !(o == 13 && t == 1 && decide (27 ≤ k) && decide (k ≤ 29))
set_option maxHeartbeats 4000000 in
theorem kd7_r {s s1 : xSt} (h : xk kd7 s s1) : xk kr7 s s1 := h.mono (fun t o k q => by
  unfold kr7 at q
  unfold kd7
  simp only [Bool.not_eq_true', Bool.and_eq_false_iff, Bool.or_eq_false_iff, decide_eq_false_iff_not] at q ⊢
  rcases q with q | ⟨q1, q2⟩
  · exact Or.inl (Or.inl (Or.inl q))
  · rcases q1 with (q1 | q1) | q1
    · exact Or.inl (Or.inl (Or.inr q1))
    · exact Or.inl (Or.inr (by omega))
    · exact Or.inr (by omega))
def oh (h : Nat) (s s1 : xSt) : Prop := ∀ k j, ¬ j = h → xA s1 13 k j = xA s 13 k j
set_option maxHeartbeats 4000000 in
theorem oh.uA {h : Nat} {s s1 : xSt} {k : Nat} {v : Int32} (g : oh h s s1) : oh h s (xuA s1 13 k h v) := fun k' j hj => by
  by_cases e : k' = k
  · subst e
    rw [xA_xuA_eq, upd_ne hj]; exact g k' j hj
  · rw [xA_xuA_ne (fun q => e q.2)]; exact g k' j hj
set_option maxHeartbeats 4000000 in
theorem l7_divides {b : Bl} {h : Nat} {S : Sm} {s : xSt} {Q : xSt → Prop} (hb : VB b) (hV : VS b S) (hR : R7 b S s) (hh : h < 20) (hq : ∀ s', R7 b S s' → xA s' 13 27 h = s_rb b h S → xA s' 13 28 h = nI (s_ayes b h S) → xA s' 13 29 h = nI (s_noes b h S) → oh h s s' → xk kd7 s s' → Q s') : d7_divides (nI h) s Q := by
  have hm := hb.1
  unfold d7_divides
  rw [ncl (by omega)]
  refine ⟨nin (by omega) (by omega), ?_⟩
  intro s2 e2
  refine ⟨nin (by omega) (by omega), ?_⟩
  intro s4 e4
  refine ⟨nin (by omega) (by omega), ?_⟩
  intro s6 e6
  have i0 : R7 b S s6 ∧ xA s6 13 27 h = 0 ∧ xA s6 13 28 h = nI 0 ∧ xA s6 13 29 h = nI 0 ∧ oh h s s6 ∧ xk kd7 s s6 := by
    subst e6 e4 e2
    refine ⟨((hR.oth (by decide)).oth (by decide)).oth (by decide), ?_, ?_, ?_, (((show oh h s s from fun _ _ _ => rfl).uA).uA).uA, ((xk.rf.uA rfl).uA rfl).uA rfl⟩
    · rw [xA_xuA_eq, upd_eq]
    · rw [xA_xuA_ne (by decide), xA_xuA_ne (by decide), xA_xuA_eq, upd_eq]; rfl
    · rw [xA_xuA_ne (by decide), xA_xuA_eq, upd_eq]; rfl
  clear e6 e4 e2
  refine lp0 (fun n i s1 => d7_divides_L23 (nI h) (fun s40 => Q s40) Q n (nI i) s1) (fun i s1 => R7 b S s1 ∧ xA s1 13 27 h = it (fun k w => w ||| (if h < un S k then 1 <<< (nI k &&& 31) else 0)) i 0 ∧ xA s1 13 28 h = nI (it (fun k n => if h < un S k then n else if up S k = 1 then n + 1 else n) i 0) ∧ xA s1 13 29 h = nI (it (fun k n => if h < un S k then n else if up S k = 1 then n else n + 1) i 0) ∧ oh h s s1 ∧ xk kd7 s s1) (bm b) (by omega) ?_ ?_ s6 i0
  · intro n s1 ⟨h1, h2, h3, h4, h5, h6⟩
    rw [d7_divides_L23, h1.1]
    exact br_t (Int32.le_refl _) (hq s1 h1 h2 h3 h4 h5 h6)
  · intro n i s1 hi ⟨h1, h2, h3, h4, h5, h6⟩ ih
    have hu := hV.2.2.1 i hi
    rw [it_succ, it_succ, it_succ] at ih
    generalize it (fun k w => w ||| (if h < un S k then 1 <<< (nI k &&& 31) else 0)) i 0 = A1 at h2 ih
    generalize it (fun k n => if h < un S k then n else if up S k = 1 then n + 1 else n) i 0 = A2 at h3 ih
    generalize it (fun k n => if h < un S k then n else if up S k = 1 then n else n + 1) i 0 = A3 at h4 ih
    have key : ∀ v1 v2 v3, v1 = (if h < un S i then 1 <<< (nI i &&& 31) else 0) → nI A2 + v2 = nI (if h < un S i then A2 else if up S i = 1 then A2 + 1 else A2) → nI A3 + v3 = nI (if h < un S i then A3 else if up S i = 1 then A3 else A3 + 1) → d7_divides_L23 (nI h) (fun s40 => Q s40) Q n (nI i + 1) (xuA (xuA (xuA s1 13 27 h (A1 ||| v1)) 13 28 h (nI A2 + v2)) 13 29 h (nI A3 + v3)) := by
      intro v1 v2 v3 g1 g2 g3
      subst g1
      rw [nI_1]
      refine ih _ ⟨((h1.oth (by decide)).oth (by decide)).oth (by decide), ?_, ?_, ?_, ((h5.uA).uA).uA, ((h6.uA rfl).uA rfl).uA rfl⟩
      · rw [xA_xuA_ne (by decide), xA_xuA_ne (by decide), xA_xuA_eq, upd_eq]
      · rw [xA_xuA_ne (by decide), xA_xuA_eq, upd_eq]; exact g2
      · rw [xA_xuA_eq, upd_eq]; exact g3
    have a1 : ∀ v, xA (xuA s1 13 27 h v) 13 28 h = nI A2 := fun v => by rw [xA_xuA_ne (by decide)]; exact h3
    have a2 : ∀ v w, xA (xuA (xuA s1 13 27 h v) 13 28 h w) 13 29 h = nI A3 := fun v w => by rw [xA_xuA_ne (by decide), xA_xuA_ne (by decide)]; exact h4
    have u0 : xA s1 13 19 i = nI (up S i) := h1.2.2.2.2.1 i hi
    have u1 : ∀ v, xA (xuA s1 13 27 h v) 13 19 i = nI (up S i) := fun v => by rw [xA_xuA_ne (by decide)]; exact u0
    have u2 : ∀ v w, xA (xuA (xuA s1 13 27 h v) 13 28 h w) 13 19 i = nI (up S i) := fun v w => by rw [xA_xuA_ne (by decide), xA_xuA_ne (by decide)]; exact u0
    rw [d7_divides_L23, h1.1]
    unfold jn
    rw [ncl (by omega), ncl (by omega)]
    have b1 : vp_in (nI h) 20 := nin (by omega) (by omega)
    have b2 : vp_in (nI i) 8 := nin (by omega) (by omega)
    refine br_f (nle hi (by omega)) (l7_isRolled hb hV h1 hi hh (fun c => ⟨b1, ?_⟩) (fun c => ⟨b1, ?_⟩))
    · refine br_t rfl ⟨b1, ?_⟩
      intro s15 e15
      subst e15
      rw [h2]
      refine ⟨b1, ?_⟩
      refine bn_t rfl ⟨b2, ?_⟩
      rw [u1]
      rcases (show up S i = 1 ∨ up S i = 0 by omega) with d | d
      · refine bn_t (by rw [d]; rfl) ⟨b1, ?_⟩
        intro s23 e23
        subst e23
        rw [a1]
        refine ⟨b1, bn_t rfl ⟨b2, ?_⟩⟩
        rw [u2]
        refine bn_f (by rw [d]; decide) ⟨b1, ?_⟩
        intro s31 e31 v32 e32
        subst e31 e32
        rw [a2]
        exact key 0 1 0 (if_neg c).symm (by rw [if_neg c, if_pos d, nI_1]) (by rw [if_neg c, if_pos d, l_0, nI_add]; rfl)
      · refine bn_f (by rw [d]; decide) ⟨b1, ?_⟩
        intro s23 e23
        subst e23
        rw [a1]
        refine ⟨b1, bn_t rfl ⟨b2, ?_⟩⟩
        rw [u2]
        refine bn_t (by rw [d]; rfl) ⟨b1, ?_⟩
        intro s31 e31 v32 e32
        subst e31 e32
        rw [a2]
        exact key 0 0 1 (if_neg c).symm (by rw [if_neg c, if_neg (by omega), l_0, nI_add]; rfl) (by rw [if_neg c, if_neg (by omega), nI_1])
    · refine br_f (by decide) ⟨b1, ?_⟩
      intro s15 e15
      subst e15
      rw [h2]
      refine ⟨b1, bn_f (by decide) ⟨b1, ?_⟩⟩
      intro s23 e23
      subst e23
      rw [a1]
      refine ⟨b1, bn_f (by decide) ⟨b1, ?_⟩⟩
      intro s31 e31 v32 e32
      subst e31 e32
      rw [a2]
      exact key _ 0 0 (if_pos c).symm (by rw [if_pos c, l_0, nI_add]; rfl) (by rw [if_pos c, l_0, nI_add]; rfl)
