def xk (kp : Nat → Nat → Nat → Bool) (σ s : xSt) : Prop := (∀ o k, kp 0 o k = true → xI s o k = xI σ o k) ∧ (∀ o k, kp 1 o k = true → xA s o k = xA σ o k) ∧ (∀ o k r, kp 2 o k = true → xB s o k r = xB σ o k r)
set_option maxHeartbeats 4000000 in
theorem xk.rf {kp : Nat → Nat → Nat → Bool} {σ : xSt} : xk kp σ σ := ⟨fun _ _ _ => rfl, fun _ _ _ => rfl, fun _ _ _ _ => rfl⟩
set_option maxHeartbeats 4000000 in
theorem xk.tr {kp : Nat → Nat → Nat → Bool} {a b c : xSt} (h : xk kp a b) (g : xk kp b c) : xk kp a c := ⟨fun o k q => (g.1 o k q).trans (h.1 o k q), fun o k q => (g.2.1 o k q).trans (h.2.1 o k q), fun o k r q => (g.2.2 o k r q).trans (h.2.2 o k r q)⟩
set_option maxHeartbeats 4000000 in
theorem xk.mono {kp kq : Nat → Nat → Nat → Bool} {a b : xSt} (h : xk kp a b) (hq : ∀ t o k, kq t o k = true → kp t o k = true) : xk kq a b := ⟨fun o k q => h.1 o k (hq _ _ _ q), fun o k q => h.2.1 o k (hq _ _ _ q), fun o k r q => h.2.2 o k r (hq _ _ _ q)⟩
set_option maxHeartbeats 4000000 in
theorem xk.uA {kp : Nat → Nat → Nat → Bool} {σ s : xSt} {o k j : Nat} {v : Int32} (h : xk kp σ s) (hk : kp 1 o k = false) : xk kp σ (xuA s o k j v) :=
  ⟨h.1, fun o' k' q => by rw [xA_xuA_ne (fun e => by rw [e.1, e.2, hk] at q; cases q)]; exact h.2.1 o' k' q, h.2.2⟩
set_option maxHeartbeats 4000000 in
theorem xk.sI {kp : Nat → Nat → Nat → Bool} {σ s : xSt} {o k : Nat} {v : Int32} (h : xk kp σ s) (hk : kp 0 o k = false) : xk kp σ (xsI s o k v) :=
  ⟨fun o' k' q => by rw [xI_xsI_ne (fun e => by rw [e.1, e.2, hk] at q; cases q)]; exact h.1 o' k' q, h.2.1, h.2.2⟩
set_option maxHeartbeats 4000000 in
theorem xk.uB {kp : Nat → Nat → Nat → Bool} {σ s : xSt} {o k r j : Nat} {v : Int32} (h : xk kp σ s) (hk : kp 2 o k = false) : xk kp σ (xuB s o k r j v) :=
  ⟨h.1, h.2.1, fun o' k' r' q => by rw [xB_xuB_ne (fun e => by rw [e.1, e.2.1, hk] at q; cases q)]; exact h.2.2 o' k' r' q⟩
set_option maxHeartbeats 4000000 in
theorem xk.sA {kp : Nat → Nat → Nat → Bool} {σ s : xSt} {o k : Nat} {f : Nat → Int32} (h : xk kp σ s) (hk : kp 1 o k = false) : xk kp σ (xsA s o k f) :=
  ⟨h.1, fun o' k' q => by rw [xA_xsA_ne (fun e => by rw [e.1, e.2, hk] at q; cases q)]; exact h.2.1 o' k' q, h.2.2⟩
set_option maxHeartbeats 4000000 in
theorem bn_t {c A B : Prop} (h : c) (b : B) : (¬ c → A) ∧ (c → B) := ⟨fun q => absurd h q, fun _ => b⟩
set_option maxHeartbeats 4000000 in
theorem bn_f {c A B : Prop} (h : ¬ c) (a : A) : (¬ c → A) ∧ (c → B) := ⟨fun _ => a, fun q => absurd q h⟩
set_option maxHeartbeats 4000000 in
theorem nle {a b : Nat} (h : b < a) (ha : a < 2147483648) : ¬ nI a ≤ nI b := nI_ge h ha
set_option maxHeartbeats 4000000 in
theorem nlt {a b : Nat} (h : b ≤ a) (ha : a < 2147483648) : ¬ nI a < nI b := nI_nlt h ha
set_option maxHeartbeats 4000000 in
theorem nne {a b : Nat} (h : ¬ a = b) (ha : a < 2147483648) (hb : b < 2147483648) : ¬ nI a = nI b := fun e => h ((nI_eq ha hb).mp e)
set_option maxHeartbeats 4000000 in
theorem ncl {a : Nat} (h : a < 2147483648) : (nI a).toNatClampNeg = a := nI_clamp h
set_option maxHeartbeats 4000000 in
theorem nin {a n : Nat} (h : a < n) (hn : n < 2147483648) : vp_in (nI a) n := vp_in_nI h hn
/-- a told thing is well -/
def VB (b : Bl) : Prop := bm b ≤ 8 ∧ (∀ k, k < bm b → bs b k ≤ 2) ∧ (∀ p, p < 12 → bd b p ≤ 9) ∧ (∀ k, k < bm b → bp b k < 12) ∧ (∀ k, k < bm b → bu b k ≤ 1) ∧ (∀ e, e ∈ be b → e.1 < 4 ∧ e.2.1 < 20 ∧ e.2.2 < 12)
def VS (b : Bl) (S : Sm) : Prop := (∀ p, p < 12 → dm S p ≤ 9) ∧ (∀ k, k < bm b → ps S k < 12) ∧ (∀ k, k < bm b → up S k ≤ 1) ∧ (∀ k, k < bm b → un S k ≤ 30)
/-- the reference's cells hold a state of the chamber -/
def R7 (b : Bl) (S : Sm) (s : xSt) : Prop := xI s 13 4 = nI (bm b) ∧ (∀ k, k < bm b → xA s 13 5 k = nI (bs b k)) ∧ (∀ p, p < 12 → xA s 13 17 p = nI (dm S p)) ∧ (∀ k, k < bm b → xA s 13 18 k = nI (ps S k)) ∧ (∀ k, k < bm b → xA s 13 19 k = nI (up S k)) ∧ (∀ k, k < bm b → xA s 13 20 k = nI (un S k)) ∧ (∀ k, k < bm b → xA s 13 21 k = nI (sc S k)) ∧ xI s 13 22 = wt S
def kp7 (t o k : Nat) : Bool := !(o == 13 && ((t == 1 && decide (17 ≤ k) && decide (k ≤ 21)) || (t == 0 && k == 22)))
set_option maxHeartbeats 4000000 in
theorem aset {f : Nat → Int32} {g : Nat → Nat} {N k w : Nat} {v : Int32} (h : ∀ j, j < N → f j = nI (g j)) (hv : v = nI w) : ∀ j, j < N → upd f k v j = nI (fu g k w j) := by
  intro j hj
  rw [upd_ap, fu_ap]
  split
  · exact hv
  · exact h j hj
set_option maxHeartbeats 4000000 in
theorem R7.dm {b : Bl} {S : Sm} {s : xSt} (h : R7 b S s) (k : Nat) {w : Nat} {v : Int32} (hv : v = nI w) : R7 b (s_dm S k w) (xuA s 13 17 k v) := by
  obtain ⟨h1, h2, h3, h4, h5, h6, h7, h8⟩ := h
  exact ⟨h1, by rw [xA_xuA_ne (by decide)]; exact h2, by rw [xA_xuA_eq]; exact aset h3 hv, by rw [xA_xuA_ne (by decide)]; exact h4, by rw [xA_xuA_ne (by decide)]; exact h5, by rw [xA_xuA_ne (by decide)]; exact h6, by rw [xA_xuA_ne (by decide)]; exact h7, h8⟩
set_option maxHeartbeats 4000000 in
theorem R7.ps {b : Bl} {S : Sm} {s : xSt} (h : R7 b S s) (k : Nat) {w : Nat} {v : Int32} (hv : v = nI w) : R7 b (s_ps S k w) (xuA s 13 18 k v) := by
  obtain ⟨h1, h2, h3, h4, h5, h6, h7, h8⟩ := h
  exact ⟨h1, by rw [xA_xuA_ne (by decide)]; exact h2, by rw [xA_xuA_ne (by decide)]; exact h3, by rw [xA_xuA_eq]; exact aset h4 hv, by rw [xA_xuA_ne (by decide)]; exact h5, by rw [xA_xuA_ne (by decide)]; exact h6, by rw [xA_xuA_ne (by decide)]; exact h7, h8⟩
set_option maxHeartbeats 4000000 in
theorem R7.up {b : Bl} {S : Sm} {s : xSt} (h : R7 b S s) (k : Nat) {w : Nat} {v : Int32} (hv : v = nI w) : R7 b (s_up S k w) (xuA s 13 19 k v) := by
  obtain ⟨h1, h2, h3, h4, h5, h6, h7, h8⟩ := h
  exact ⟨h1, by rw [xA_xuA_ne (by decide)]; exact h2, by rw [xA_xuA_ne (by decide)]; exact h3, by rw [xA_xuA_ne (by decide)]; exact h4, by rw [xA_xuA_eq]; exact aset h5 hv, by rw [xA_xuA_ne (by decide)]; exact h6, by rw [xA_xuA_ne (by decide)]; exact h7, h8⟩
set_option maxHeartbeats 4000000 in
theorem R7.un {b : Bl} {S : Sm} {s : xSt} (h : R7 b S s) (k : Nat) {w : Nat} {v : Int32} (hv : v = nI w) : R7 b (s_un S k w) (xuA s 13 20 k v) := by
  obtain ⟨h1, h2, h3, h4, h5, h6, h7, h8⟩ := h
  exact ⟨h1, by rw [xA_xuA_ne (by decide)]; exact h2, by rw [xA_xuA_ne (by decide)]; exact h3, by rw [xA_xuA_ne (by decide)]; exact h4, by rw [xA_xuA_ne (by decide)]; exact h5, by rw [xA_xuA_eq]; exact aset h6 hv, by rw [xA_xuA_ne (by decide)]; exact h7, h8⟩
set_option maxHeartbeats 4000000 in
theorem R7.sc {b : Bl} {S : Sm} {s : xSt} (h : R7 b S s) (k : Nat) {w : Nat} {v : Int32} (hv : v = nI w) : R7 b (s_sc S k w) (xuA s 13 21 k v) := by
  obtain ⟨h1, h2, h3, h4, h5, h6, h7, h8⟩ := h
  exact ⟨h1, by rw [xA_xuA_ne (by decide)]; exact h2, by rw [xA_xuA_ne (by decide)]; exact h3, by rw [xA_xuA_ne (by decide)]; exact h4, by rw [xA_xuA_ne (by decide)]; exact h5, by rw [xA_xuA_ne (by decide)]; exact h6, by rw [xA_xuA_eq]; exact aset h7 hv, h8⟩
set_option maxHeartbeats 4000000 in
theorem R7.wt {b : Bl} {S : Sm} {s : xSt} (h : R7 b S s) (v : Int32) : R7 b (s_wt S v) (xsI s 13 22 v) := by
  obtain ⟨h1, h2, h3, h4, h5, h6, h7, h8⟩ := h
  exact ⟨h1, h2, h3, h4, h5, h6, h7, rfl⟩
set_option maxHeartbeats 4000000 in
theorem l7_lifts {b : Bl} {h : Nat} {S : Sm} {s : xSt} {Q : xSt → Prop} (hb : VB b) (hR : R7 b S s) (hq : ∀ s', R7 b (s_lift b h S) s' → xk kp7 s s' → Q s') : d7_lifts (nI h) s Q := by
  have hm := hb.1
  unfold d7_lifts
  refine lp0 (fun n i s1 => d7_lifts_L2 (nI h) (fun s6 => Q s6) Q n (nI i) s1) (fun i s1 => R7 b (it (fun k S => s_un S k (h + bs b k + 1)) i S) s1 ∧ xk kp7 s s1) (bm b) (by omega) ?_ ?_ s ⟨hR, xk.rf⟩
  · intro n s1 ⟨h1, h2⟩
    rw [d7_lifts_L2, h1.1]
    exact br_t (Int32.le_refl _) (hq s1 h1 h2)
  · intro n i s1 hi ⟨h1, h2⟩ ih
    rw [d7_lifts_L2, h1.1, ncl (by omega)]
    refine br_f (nle hi (by omega)) ⟨nin (by omega) (by omega), nin (by omega) (by omega), ?_⟩
    intro s4 e4 v5 e5
    subst e4 e5
    rw [nI_1]
    exact ih _ ⟨h1.un i (by rw [h1.2.1 i hi, nI_add, nI_1]), h2.uA rfl⟩
set_option maxHeartbeats 4000000 in
theorem l7_peppers {b : Bl} {p : Nat} {S : Sm} {s : xSt} {Q : xSt → Prop} (hb : VB b) (hp : p < 12) (hV : VS b S) (hR : R7 b S s) (hq : ∀ s', R7 b (s_pepper b p S) s' → xk kp7 s s' → Q s') : d7_peppers (nI p) s Q := by
  have hm := hb.1
  unfold d7_peppers
  refine lp0 (fun n i s1 => d7_peppers_L2 (nI p) (fun s6 => Q s6) Q n (nI i) s1) (fun i s1 => (R7 b (it (fun k S => if ps S k = p then s_up S k (1 - up S k) else S) i S) s1 ∧ VS b (it (fun k S => if ps S k = p then s_up S k (1 - up S k) else S) i S)) ∧ xk kp7 s s1) (bm b) (by omega) ?_ ?_ s ⟨⟨hR, hV⟩, xk.rf⟩
  · intro n s1 ⟨h1, h2⟩
    rw [d7_peppers_L2, h1.1.1]
    exact br_t (Int32.le_refl _) (hq s1 h1.1 h2)
  · intro n i s1 hi ⟨⟨h1, h0⟩, h2⟩ ih
    rw [d7_peppers_L2, h1.1, ncl (by omega), h1.2.2.2.1 i hi, h1.2.2.2.2.1 i hi]
    refine br_f (nle hi (by omega)) ⟨nin (by omega) (by omega), ?_⟩
    have g1 := h0.2.1 i hi
    have g2 := h0.2.2.1 i hi
    generalize hT : it (fun k S => if ps S k = p then s_up S k (1 - up S k) else S) i S = T at h1 h0 g1 g2 ih ⊢
    have e : it (fun k S => if ps S k = p then s_up S k (1 - up S k) else S) (i + 1) S = if ps T i = p then s_up T i (1 - up T i) else T := by rw [← hT]; rfl
    rw [e] at ih
    by_cases c : ps T i = p
    · rw [if_pos c] at ih
      refine bn_t (by rw [c]) ⟨nin (by omega) (by omega), nin (by omega) (by omega), ?_⟩
      intro s4 e4 v5 e5
      subst e4 e5
      rw [nI_1]
      refine ih _ ⟨⟨h1.up i (by rw [l_1, pk_sub g2]), ⟨h0.1, h0.2.1, ?_, h0.2.2.2⟩⟩, h2.uA rfl⟩
      intro k hk
      show fu _ _ _ k ≤ 1
      rw [fu_ap]
      split
      · omega
      · exact h0.2.2.1 k hk
    · rw [if_neg c] at ih
      refine bn_f (nne c (by omega) (by omega)) ⟨nin (by omega) (by omega), nin (by omega) (by omega), ?_⟩
      intro s4 e4 v5 e5
      subst e4 e5
      rw [nI_1]
      refine ih _ ⟨⟨?_, h0⟩, h2.uA rfl⟩
      have g := h1.up i (w := up T i) rfl
      have e2 : s_up T i (up T i) = T := by
        show (_, _, fu (up T) i (up T i), _, _, _) = _
        have : fu (up T) i (up T i) = up T := by
          funext j
          rw [fu_ap]
          split
          · rename_i q; rw [q]
          · rfl
        rw [this]; rfl
      rw [e2] at g
      exact g
