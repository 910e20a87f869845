/-- a chamber's cells hold a state -/
def R2 (c : Nat) (b : Bl) (S : Sm) (s : xSt) : Prop := xI s c 8 = nI (bm b) ∧ (∀ k, k < bm b → xA s c 2 k = nI (bs b k)) ∧ (∀ p, p < 12 → xA s c 0 p = nI (dm S p)) ∧ (∀ k, k < bm b → xA s c 3 k = nI (ps S k)) ∧ (∀ k, k < bm b → xA s c 4 k = nI (up S k)) ∧ (∀ k, k < bm b → xA s c 5 k = nI (un S k)) ∧ (∀ k, k < bm b → xA s c 7 k = nI (sc S k)) ∧ xI s c 9 = wt S
/-- only a chamber's own cells, but its records, change -/
def kc (c t o k : Nat) : Bool := !(o == c && ((t == 1 && decide (k < 8)) || t == 0))
/-- only a chamber's cells change -/
def kw (c _t o _k : Nat) : Bool := !(o == c)
set_option maxHeartbeats 4000000 in
theorem kc_w {c : Nat} {s s1 : xSt} (h : xk (kc c) s s1) : xk (kw c) s s1 := h.mono (fun t o k q => by
  unfold kw at q
  unfold kc
  simp only [Bool.not_eq_true'] at q ⊢
  rw [q]; rfl)
set_option maxHeartbeats 4000000 in
theorem kcA {c k : Nat} (h : k < 8) : kc c 1 c k = false := by simp [kc, h]
set_option maxHeartbeats 4000000 in
theorem kcI {c k : Nat} : kc c 0 c k = false := by simp [kc]
set_option maxHeartbeats 4000000 in
theorem kcB {c o t k : Nat} (h : ¬ o = c) : kc c t o k = true := by simp [kc, h]
set_option maxHeartbeats 4000000 in
theorem kcR {c k : Nat} (h : 8 ≤ k) : kc c 1 c k = true := by simp [kc]; omega
set_option maxHeartbeats 4000000 in
theorem kcX {c o k : Nat} : kc c 2 o k = true := by simp [kc]
set_option maxHeartbeats 4000000 in
theorem kwF {c t k : Nat} : kw c t c k = false := by simp [kw]
set_option maxHeartbeats 4000000 in
theorem kwT {c o t k : Nat} (h : ¬ o = c) : kw c t o k = true := by simp [kw, h]
set_option maxHeartbeats 4000000 in
theorem R2.dm {c : Nat} {b : Bl} {S : Sm} {s : xSt} (h : R2 c b S s) (k : Nat) {w : Nat} {v : Int32} (hv : v = nI w) : R2 c b (s_dm S k w) (xuA s c 0 k v) := by
  obtain ⟨h1, h2, h3, h4, h5, h6, h7, h8⟩ := h
  exact ⟨h1, by rw [xA_xuA_ne (by omega)]; exact h2, by rw [xA_xuA_eq]; exact aset h3 hv, by rw [xA_xuA_ne (by omega)]; exact h4, by rw [xA_xuA_ne (by omega)]; exact h5, by rw [xA_xuA_ne (by omega)]; exact h6, by rw [xA_xuA_ne (by omega)]; exact h7, h8⟩
set_option maxHeartbeats 4000000 in
theorem R2.ps {c : Nat} {b : Bl} {S : Sm} {s : xSt} (h : R2 c b S s) (k : Nat) {w : Nat} {v : Int32} (hv : v = nI w) : R2 c b (s_ps S k w) (xuA s c 3 k v) := by
  obtain ⟨h1, h2, h3, h4, h5, h6, h7, h8⟩ := h
  exact ⟨h1, by rw [xA_xuA_ne (by omega)]; exact h2, by rw [xA_xuA_ne (by omega)]; exact h3, by rw [xA_xuA_eq]; exact aset h4 hv, by rw [xA_xuA_ne (by omega)]; exact h5, by rw [xA_xuA_ne (by omega)]; exact h6, by rw [xA_xuA_ne (by omega)]; exact h7, h8⟩
set_option maxHeartbeats 4000000 in
theorem R2.up {c : Nat} {b : Bl} {S : Sm} {s : xSt} (h : R2 c b S s) (k : Nat) {w : Nat} {v : Int32} (hv : v = nI w) : R2 c b (s_up S k w) (xuA s c 4 k v) := by
  obtain ⟨h1, h2, h3, h4, h5, h6, h7, h8⟩ := h
  exact ⟨h1, by rw [xA_xuA_ne (by omega)]; exact h2, by rw [xA_xuA_ne (by omega)]; exact h3, by rw [xA_xuA_ne (by omega)]; exact h4, by rw [xA_xuA_eq]; exact aset h5 hv, by rw [xA_xuA_ne (by omega)]; exact h6, by rw [xA_xuA_ne (by omega)]; exact h7, h8⟩
set_option maxHeartbeats 4000000 in
theorem R2.un {c : Nat} {b : Bl} {S : Sm} {s : xSt} (h : R2 c b S s) (k : Nat) {w : Nat} {v : Int32} (hv : v = nI w) : R2 c b (s_un S k w) (xuA s c 5 k v) := by
  obtain ⟨h1, h2, h3, h4, h5, h6, h7, h8⟩ := h
  exact ⟨h1, by rw [xA_xuA_ne (by omega)]; exact h2, by rw [xA_xuA_ne (by omega)]; exact h3, by rw [xA_xuA_ne (by omega)]; exact h4, by rw [xA_xuA_ne (by omega)]; exact h5, by rw [xA_xuA_eq]; exact aset h6 hv, by rw [xA_xuA_ne (by omega)]; exact h7, h8⟩
set_option maxHeartbeats 4000000 in
theorem R2.sc {c : Nat} {b : Bl} {S : Sm} {s : xSt} (h : R2 c b S s) (k : Nat) {w : Nat} {v : Int32} (hv : v = nI w) : R2 c b (s_sc S k w) (xuA s c 7 k v) := by
  obtain ⟨h1, h2, h3, h4, h5, h6, h7, h8⟩ := h
  exact ⟨h1, by rw [xA_xuA_ne (by omega)]; exact h2, by rw [xA_xuA_ne (by omega)]; exact h3, by rw [xA_xuA_ne (by omega)]; exact h4, by rw [xA_xuA_ne (by omega)]; exact h5, by rw [xA_xuA_ne (by omega)]; exact h6, by rw [xA_xuA_eq]; exact aset h7 hv, h8⟩
set_option maxHeartbeats 4000000 in
theorem R2.wt {c : Nat} {b : Bl} {S : Sm} {s : xSt} (h : R2 c b S s) (v : Int32) : R2 c b (s_wt S v) (xsI s c 9 v) := by
  obtain ⟨h1, h2, h3, h4, h5, h6, h7, h8⟩ := h
  exact ⟨by rw [xI_xsI_ne (by omega)]; exact h1, h2, h3, h4, h5, h6, h7, xI_xsI_eq _ _ _ _⟩
set_option maxHeartbeats 4000000 in
theorem R2.oth {c : Nat} {b : Bl} {S : Sm} {s : xSt} (h : R2 c b S s) {o k j : Nat} {v : Int32} (hk : o = c → k = 1 ∨ k = 6 ∨ 8 ≤ k) : R2 c b S (xuA s o k j v) := by
  obtain ⟨h1, h2, h3, h4, h5, h6, h7, h8⟩ := h
  exact ⟨h1, by rw [xA_xuA_ne (fun q => by have := hk q.1.symm; omega)]; exact h2, by rw [xA_xuA_ne (fun q => by have := hk q.1.symm; omega)]; exact h3, by rw [xA_xuA_ne (fun q => by have := hk q.1.symm; omega)]; exact h4, by rw [xA_xuA_ne (fun q => by have := hk q.1.symm; omega)]; exact h5, by rw [xA_xuA_ne (fun q => by have := hk q.1.symm; omega)]; exact h6, by rw [xA_xuA_ne (fun q => by have := hk q.1.symm; omega)]; exact h7, h8⟩
set_option maxHeartbeats 4000000 in
theorem R2.xB {c : Nat} {b : Bl} {S : Sm} {s : xSt} (h : R2 c b S s) {o k r j : Nat} {v : Int32} : R2 c b S (xuB s o k r j v) := h
set_option maxHeartbeats 4000000 in
theorem l2_lift {c : Nat} {b : Bl} {h : Nat} {S : Sm} {s : xSt} {Q : xSt → Prop} (hb : VB b) (hR : R2 c b S s) (hq : ∀ s', R2 c b (s_lift b h S) s' → xk (kc c) s s' → Q s') : d2_lift c (nI h) s Q := by
  have hm := hb.1
  unfold d2_lift
  refine lp0 (fun n i s1 => d2_lift_L2 c (nI h) (fun s6 => Q s6) Q n (nI i) s1) (fun i s1 => R2 c b (it (fun k S => s_un S k (h + bs b k + 1)) i S) s1 ∧ xk (kc c) s s1) (bm b) (by omega) ?_ ?_ s ⟨hR, xk.rf⟩
  · intro n s1 ⟨h1, h2⟩
    rw [d2_lift_L2, h1.1]
    exact br_t (Int32.le_refl _) (hq s1 h1 h2)
  · intro n i s1 hi ⟨h1, h2⟩ ih
    rw [d2_lift_L2, h1.1, ncl (by omega)]
    refine br_f (nle hi (by omega)) ⟨nin (by omega) (by omega), nin (by omega) (by omega), ?_⟩
    intro s4 e4 v5 e5
    subst e4 e5
    rw [nI_1]
    exact ih _ ⟨h1.un i (by rw [h1.2.1 i hi, nI_1, nI_add]; congr 1; omega), h2.uA (kcA (by omega))⟩
set_option maxHeartbeats 4000000 in
theorem l2_pepper {c : Nat} {b : Bl} {p : Nat} {S : Sm} {s : xSt} {Q : xSt → Prop} (hb : VB b) (hp : p < 12) (hV : VS b S) (hR : R2 c b S s) (hq : ∀ s', R2 c b (s_pepper b p S) s' → xk (kc c) s s' → Q s') : d2_pepper c (nI p) s Q := by
  have hm := hb.1
  unfold d2_pepper
  refine lp0 (fun n i s1 => d2_pepper_L2 c (nI p) (fun s6 => Q s6) Q n (nI i) s1) (fun i s1 => (R2 c b (it (fun k S => if ps S k = p then s_up S k (1 - up S k) else S) i S) s1 ∧ VS b (it (fun k S => if ps S k = p then s_up S k (1 - up S k) else S) i S)) ∧ xk (kc c) s s1) (bm b) (by omega) ?_ ?_ s ⟨⟨hR, hV⟩, xk.rf⟩
  · intro n s1 ⟨h1, h2⟩
    rw [d2_pepper_L2, h1.1.1]
    exact br_t (Int32.le_refl _) (hq s1 h1.1 h2)
  · intro n i s1 hi ⟨⟨h1, h0⟩, h2⟩ ih
    rw [d2_pepper_L2, h1.1, ncl (by omega), h1.2.2.2.1 i hi, h1.2.2.2.2.1 i hi]
    refine br_f (nle hi (by omega)) ⟨nin (by omega) (by omega), ?_⟩
    have g1 := h0.2.1 i hi
    have g2 := h0.2.2.1 i hi
    rw [it_succ] at ih
    generalize it (fun k S => if ps S k = p then s_up S k (1 - up S k) else S) i S = T at h1 h0 g1 g2 ih ⊢
    by_cases q : ps T i = p
    · rw [if_pos q] at ih
      refine bn_t (by rw [q]) ⟨nin (by omega) (by omega), nin (by omega) (by omega), ?_⟩
      intro s4 e4 v5 e5
      subst e4 e5
      rw [nI_1]
      exact ih _ ⟨⟨h1.up i (by rw [l_1, pk_sub g2]), h0.up (by omega)⟩, h2.uA (kcA (by omega))⟩
    · rw [if_neg q] at ih
      refine bn_f (nne q (by omega) (by omega)) ?_
      intro v5 e5
      subst e5
      rw [nI_1]
      exact ih _ ⟨⟨h1, h0⟩, h2⟩
set_option maxHeartbeats 4000000 in
theorem l2_wetAll {c : Nat} {b : Bl} {f : Nat → Nat} {by_ : Int32} {S : Sm} {s : xSt} {Q : xSt → Prop} (hf : ∀ d, d ≤ 9 → f d ≤ 9) (hw : ∀ d, d < 10 → wok f by_ d) (hV : VS b S) (hR : R2 c b S s) (hq : ∀ s', R2 c b (s_wet f S) s' → xk (kc c) s s' → Q s') : d2_wetAll c by_ s Q := by
  unfold d2_wetAll
  refine lp0 (fun n i s1 => d2_wetAll_L2 c by_ (fun s6 => Q s6) Q n (nI i) s1) (fun i s1 => (R2 c b (it (fun p S => s_dm S p (f (dm S p))) i S) s1 ∧ VS b (it (fun p S => s_dm S p (f (dm S p))) i S)) ∧ xk (kc c) s s1) 12 (by omega) ?_ ?_ s ⟨⟨hR, hV⟩, xk.rf⟩
  · intro n s1 ⟨h1, h2⟩
    rw [d2_wetAll_L2]
    exact br_t (Int32.le_refl _) (hq s1 h1.1 h2)
  · intro n i s1 hi ⟨⟨h1, h0⟩, h2⟩ ih
    rw [d2_wetAll_L2, ncl (by omega), h1.2.2.1 i hi]
    refine br_f (nle (a := 12) hi (by omega)) ⟨nin (by omega) (by omega), ?_⟩
    intro v3 e3
    subst e3
    have g := h0.1 i hi
    have ih2 : ∀ w, w = f (dm (it (fun p S => s_dm S p (f (dm S p))) i S) i) → d2_wetAll_L2 c by_ (fun s6 => Q s6) Q n (nI (i + 1)) (xuA s1 c 0 i (nI w)) := fun w hw => by
      subst hw
      exact ih _ ⟨⟨h1.dm i rfl, h0.dm (hf _ g)⟩, h2.uA (kcA (by omega))⟩
    rcases hw _ (show dm (it (fun p S => s_dm S p (f (dm S p))) i S) i < 10 by omega) with ⟨q1, q2⟩ | ⟨q1, q2, q3⟩ | ⟨q1, q2, q3⟩
    · refine br_f q1 ⟨nin (by omega) (by omega), ?_⟩
      intro s4 e4 v5 e5
      subst e4 e5
      rw [nI_1]
      exact ih2 0 q2.symm
    · refine br_t q1 (br_f q2 ⟨nin (by omega) (by omega), ?_⟩)
      intro s4 e4 v5 e5
      subst e4 e5
      rw [nI_1]
      exact ih2 9 q3.symm
    · refine br_t q1 (br_t q2 ⟨nin (by omega) (by omega), ?_⟩)
      intro s4 e4 v5 e5
      subst e4 e5
      rw [nI_1, q3]
      exact ih2 _ rfl
/-- a bill's cells hold what is told -/
def C1 (o : Nat) (b : Bl) (s : xSt) : Prop := xI s o 4 = nI (bm b) ∧ (∀ k, k < bm b → xA s o 1 k = nI (bs b k)) ∧ (∀ p, p < 12 → xA s o 0 p = nI (bd b p)) ∧ (∀ k, k < bm b → xA s o 2 k = nI (bp b k)) ∧ (∀ k, k < bm b → xA s o 3 k = nI (bu b k)) ∧ ∃ (ne : Nat) (g : Nat → Ev), ne ≤ 9 ∧ xI s o 8 = nI ne ∧ be b = (List.range ne).map g ∧ ∀ e, e < ne → xA s o 5 e = nI (g e).1 ∧ xA s o 6 e = nI (g e).2.1 ∧ xA s o 7 e = nI (g e).2.2
set_option maxHeartbeats 4000000 in
theorem C1.keep {c o : Nat} {b : Bl} {s s1 : xSt} (h : C1 o b s) (k : xk (kw c) s s1) (hne : ¬ o = c) : C1 o b s1 := by
  obtain ⟨h1, h2, h3, h4, h5, ne, g, h6, h7, h8, h9⟩ := h
  exact ⟨by rw [k.1 o 4 (kwT hne)]; exact h1, by rw [k.2.1 o 1 (kwT hne)]; exact h2, by rw [k.2.1 o 0 (kwT hne)]; exact h3, by rw [k.2.1 o 2 (kwT hne)]; exact h4, by rw [k.2.1 o 3 (kwT hne)]; exact h5, ne, g, h6, by rw [k.1 o 8 (kwT hne)]; exact h7, h8, by rw [k.2.1 o 5 (kwT hne), k.2.1 o 6 (kwT hne), k.2.1 o 7 (kwT hne)]; exact h9⟩
set_option maxHeartbeats 4000000 in
theorem fold_more1 {α : Type} (f : α → Ev → α) (g : Nat → Ev) (x : α) (i : Nat) : ((List.range (i + 1)).map g).foldl f x = f (((List.range i).map g).foldl f x) (g i) := by
  rw [List.range_succ, List.map_append, List.foldl_append]; rfl
def RO (c : Nat) (b : Bl) (h : Nat) (S : Sm) (s : xSt) : Prop := ∀ k, k < bm b → xA s c 6 k = if h < un S k then 1 else 0
set_option maxHeartbeats 4000000 in
theorem l2_doEvents {c o : Nat} {b : Bl} {h : Nat} {S : Sm} {s : xSt} {Q : xSt → Prop} (hco : ¬ o = c) (hb : VB b) (hV : VS b S) (hR : R2 c b S s) (hC : C1 o b s) (hh : h < 20) (hq : ∀ s', R2 c b (s_evs b h S) s' → RO c b h (s_evs b h S) s' → xk (kc c) s s' → Q s') : d2_doEvents c o (nI h) s Q := by
  have hm := hb.1
  obtain ⟨-, -, -, -, -, ne, g, g1, g2, g3, g4⟩ := hC
  have hbe := hb.2.2.2.2.2
  unfold s_evs at hq
  rw [g3] at hq hbe
  unfold d2_doEvents
  refine lp0 (fun n i s1 => d2_doEvents_L2 c o (nI h) _ Q n (nI i) s1) (fun i s1 => (R2 c b (((List.range i).map g).foldl (s_ev b h) S) s1 ∧ VS b (((List.range i).map g).foldl (s_ev b h) S)) ∧ xk (kc c) s s1) ne (by omega) ?_ ?_ s ⟨⟨hR, hV⟩, xk.rf⟩
  · intro n s1 ⟨⟨h1, h0⟩, h2⟩
    rw [d2_doEvents_L2, h2.1 o 8 (kcB hco), g2]
    refine br_t (Int32.le_refl _) ?_
    clear n
    generalize (((List.range ne).map g).foldl (s_ev b h) S) = T at h1 h0 hq
    refine lp0 (fun n i s1 => d2_doEvents_L107 c o (nI h) (fun s34 => Q s34) Q n (nI i) s1) (fun i s2 => R2 c b T s2 ∧ (∀ k, k < i → xA s2 c 6 k = if h < un T k then 1 else 0) ∧ xk (kc c) s s2) (bm b) (by omega) ?_ ?_ s1 ⟨h1, fun _ q => by omega, h2⟩
    · intro n s2 ⟨r1, r2, r3⟩
      rw [d2_doEvents_L107, r1.1]
      exact br_t (Int32.le_refl _) (hq s2 r1 r2 r3)
    · intro n i s2 hi ⟨r1, r2, r3⟩ ih
      have hu := h0.2.2.2 i hi
      rw [d2_doEvents_L107, r1.1, ncl (by omega), r1.2.2.2.2.2.1 i hi]
      have b2 : vp_in (nI i) 8 := nin (by omega) (by omega)
      refine br_f (nle hi (by omega)) ⟨b2, ?_⟩
      have key : ∀ w : Int32, w = (if h < un T i then 1 else 0) → d2_doEvents_L107 c o (nI h) (fun s34 => Q s34) Q n (nI (i + 1)) (xuA s2 c 6 i w) := fun w hw => by
        refine ih _ ⟨r1.oth (fun _ => by omega), fun k hk => ?_, r3.uA (kcA (by omega))⟩
        rw [xA_xuA_eq, upd_ap]
        split
        · have : k = i := by omega
          subst this; exact hw
        · exact r2 k (by omega)
      by_cases q : h < un T i
      · refine br_f (nle q (by omega)) ⟨b2, ?_⟩
        intro s3 e3 v e
        subst e3 e
        rw [nI_1]
        exact key _ (by rw [if_pos q]; rfl)
      · refine br_t (nI_le (by omega) (by omega)) ⟨b2, ?_⟩
        intro s3 e3 v e
        subst e3 e
        rw [nI_1]
        exact key _ (by rw [if_neg q]; rfl)
  · intro n i s1 hi ⟨⟨h1, h0⟩, h2⟩ ih
    rw [fold_more1] at ih
    generalize ((List.range i).map g).foldl (s_ev b h) S = T at h1 h0 ih
    obtain ⟨k1, k2, k3⟩ := g4 i hi
    obtain ⟨v1, v2, v3⟩ := hbe (g i) (List.mem_map.mpr ⟨i, List.mem_range.mpr hi, rfl⟩)
    rw [d2_doEvents_L2, h2.1 o 8 (kcB hco), g2, ncl (by omega), h2.2.1 o 6 (kcB hco), k2, h2.2.1 o 5 (kcB hco), k1, h2.2.1 o 7 (kcB hco), k3]
    unfold jn
    refine br_f (nle hi (by omega)) (br_f (nle (a := 9) (by omega) (by omega)) ⟨nin (by omega) (by omega), ?_⟩)
    have vE := h0.ev (x := g i) hb hh
    by_cases q : (g i).2.1 = h
    · refine bn_t (by rw [q]) ⟨nin (by omega) (by omega), ?_⟩
      have e0 : s_ev b h T (g i) = (if (g i).1 = 0 then s_lift b h T else if (g i).1 = 1 then s_pepper b (g i).2.2 T else if (g i).1 = 2 then s_wet s_frost T else s_wet s_rain T) := if_pos q
      rw [e0] at ih vE
      rcases (show (g i).1 = 0 ∨ (g i).1 = 1 ∨ (g i).1 = 2 ∨ (g i).1 = 3 by omega) with d | d | d | d
      · rw [d] at ih vE ⊢
        refine bn_t rfl (l2_lift hb h1 fun s' r1 r2 => ?_)
        intro v e; subst e
        rw [nI_1]; exact ih s' ⟨⟨r1, vE⟩, h2.tr r2⟩
      · rw [d] at ih vE ⊢
        refine bn_f (by decide) (bn_t rfl ⟨nin (by omega) (by omega), l2_pepper hb v3 h0 h1 fun s' r1 r2 => ?_⟩)
        intro v e; subst e
        rw [nI_1]; exact ih s' ⟨⟨r1, vE⟩, h2.tr r2⟩
      · rw [d] at ih vE ⊢
        refine bn_f (by decide) (bn_f (by decide) (bn_t rfl (l2_wetAll f_frost wok_frost h0 h1 fun s' r1 r2 => ?_)))
        intro v e; subst e
        rw [nI_1]; exact ih s' ⟨⟨r1, vE⟩, h2.tr r2⟩
      · rw [d] at ih vE ⊢
        refine bn_f (by decide) (bn_f (by decide) (bn_f (by decide) (bn_t rfl (l2_wetAll f_rain wok_rain h0 h1 fun s' r1 r2 => ?_))))
        intro v e; subst e
        rw [nI_1]; exact ih s' ⟨⟨r1, vE⟩, h2.tr r2⟩
    · refine bn_f (nne q (by omega) (by omega)) ?_
      refine bn_f (by decide) (bn_f (by decide) (bn_f (by decide) (bn_f (by decide) ?_)))
      intro v e; subst e
      rw [nI_1]
      have e0 : s_ev b h T (g i) = T := if_neg q
      rw [e0] at ih
      exact ih s1 ⟨⟨h1, h0⟩, h2⟩
