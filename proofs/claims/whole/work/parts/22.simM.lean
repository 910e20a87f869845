set_option maxHeartbeats 4000000 in
theorem jn_i {α : Sort _} {k : α} {b : α → Prop} (h : b k) : jn k b := h
def pm (a : Nat) : Int32 := nI a - 1
set_option maxHeartbeats 4000000 in
theorem pm_lt : ∀ a, a < 11 → ∀ b, b < 11 → (pm a < pm b ↔ a < b) := by decide +kernel
set_option maxHeartbeats 4000000 in
theorem pm_le : ∀ a, a < 11 → ∀ b, b < 11 → (pm a ≤ pm b ↔ a ≤ b) := by decide +kernel
set_option maxHeartbeats 4000000 in
theorem pm_s (a : Nat) : pm (a + 1) = nI a := nI_pred a
set_option maxHeartbeats 4000000 in
theorem pm_0 : pm 0 = -1 := rfl
set_option maxHeartbeats 4000000 in
theorem VS.dm {b : Bl} {S : Sm} (h : VS b S) {k v : Nat} (hv : v ≤ 9) : VS b (s_dm S k v) := ⟨fun p hp => by
  show fu _ _ _ p ≤ 9
  rw [fu_ap]; split
  · exact hv
  · exact h.1 p hp, h.2⟩
set_option maxHeartbeats 4000000 in
theorem VS.ps {b : Bl} {S : Sm} (h : VS b S) {k v : Nat} (hv : v < 12) : VS b (s_ps S k v) := ⟨h.1, fun p hp => by
  show fu _ _ _ p < 12
  rw [fu_ap]; split
  · exact hv
  · exact h.2.1 p hp, h.2.2⟩
set_option maxHeartbeats 4000000 in
theorem VS.up {b : Bl} {S : Sm} (h : VS b S) {k v : Nat} (hv : v ≤ 1) : VS b (s_up S k v) := ⟨h.1, h.2.1, fun p hp => by
  show fu _ _ _ p ≤ 1
  rw [fu_ap]; split
  · exact hv
  · exact h.2.2.1 p hp, h.2.2.2⟩
set_option maxHeartbeats 4000000 in
theorem VS.un {b : Bl} {S : Sm} (h : VS b S) {k v : Nat} (hv : v ≤ 30) : VS b (s_un S k v) := ⟨h.1, h.2.1, h.2.2.1, fun p hp => by
  show fu _ _ _ p ≤ 30
  rw [fu_ap]; split
  · exact hv
  · exact h.2.2.2 p hp⟩
set_option maxHeartbeats 4000000 in
theorem VS.sc {b : Bl} {S : Sm} (h : VS b S) {k v : Nat} : VS b (s_sc S k v) := h
set_option maxHeartbeats 4000000 in
theorem VS.wt {b : Bl} {S : Sm} (h : VS b S) {v : Int32} : VS b (s_wt S v) := h
set_option maxHeartbeats 4000000 in
/-- an iterate keeps what each of its steps keeps -/
theorem it_inv {α : Type} {f : Nat → α → α} (P : α → Prop) : ∀ (n : Nat) (x : α), P x → (∀ i y, i < n → P y → P (f i y)) → P (it f n x) := by
  intro n
  induction n with
  | zero => intro x h _; exact h
  | succ n ih => intro x h hs; exact hs n _ (Nat.lt_succ_self n) (ih x h (fun i y hi => hs i y (by omega)))
set_option maxHeartbeats 4000000 in
theorem VS.lift {b : Bl} {h : Nat} {S : Sm} (hb : VB b) (hh : h < 20) (hV : VS b S) : VS b (s_lift b h S) := it_inv (VS b) _ _ hV (fun i y hi hy => hy.un (by have := hb.2.1 i hi; omega))
set_option maxHeartbeats 4000000 in
theorem VS.pepper {b : Bl} {p : Nat} {S : Sm} (hV : VS b S) : VS b (s_pepper b p S) := it_inv (VS b) _ _ hV (fun i y hi hy => by
  show VS b (if _ then _ else _)
  split
  · exact hy.up (by have := hy.2.2.1 i hi; omega)
  · exact hy)
set_option maxHeartbeats 4000000 in
theorem VS.wet {b : Bl} {f : Nat → Nat} {S : Sm} (hf : ∀ d, d ≤ 9 → f d ≤ 9) (hV : VS b S) : VS b (s_wet f S) := it_inv (VS b) _ _ hV (fun i y hi hy => hy.dm (hf _ (hy.1 i hi)))
set_option maxHeartbeats 4000000 in
theorem f_frost : ∀ d, d ≤ 9 → s_frost d ≤ 9 := by intro d h; unfold s_frost; omega
set_option maxHeartbeats 4000000 in
theorem f_rain : ∀ d, d ≤ 9 → s_rain d ≤ 9 := by intro d h; unfold s_rain; split <;> omega
def wok (f : Nat → Nat) (by_ : Int32) (d : Nat) : Prop := (¬ 0 ≤ nI d + by_ ∧ f d = 0) ∨ (0 ≤ nI d + by_ ∧ ¬ nI d + by_ ≤ 9 ∧ f d = 9) ∨ (0 ≤ nI d + by_ ∧ nI d + by_ ≤ 9 ∧ nI d + by_ = nI (f d))
set_option maxHeartbeats 4000000 in
theorem wok_frost : ∀ d, d < 10 → wok s_frost (-2) d := by unfold wok; decide +kernel
set_option maxHeartbeats 4000000 in
theorem wok_rain : ∀ d, d < 10 → wok s_rain 3 d := by unfold wok; decide +kernel
set_option maxHeartbeats 4000000 in
theorem l7_wets {b : Bl} {f : Nat → Nat} {by_ : Int32} {S : Sm} {s : xSt} {Q : xSt → Prop} (hf : ∀ d, d ≤ 9 → f d ≤ 9) (hw : ∀ d, d < 10 → wok f by_ d) (hV : VS b S) (hR : R7 b S s) (hq : ∀ s', R7 b (s_wet f S) s' → xk kp7 s s' → Q s') : d7_wets by_ s Q := by
  unfold d7_wets
  refine lp0 (fun n i s1 => d7_wets_L2 by_ (fun s6 => Q s6) Q n (nI i) s1) (fun i s1 => (R7 b (it (fun p S => s_dm S p (f (dm S p))) i S) s1 ∧ VS b (it (fun p S => s_dm S p (f (dm S p))) i S)) ∧ xk kp7 s s1) 12 (by omega) ?_ ?_ s ⟨⟨hR, hV⟩, xk.rf⟩
  · intro n s1 ⟨h1, h2⟩
    rw [d7_wets_L2]
    exact br_t (Int32.le_refl _) (hq s1 h1.1 h2)
  · intro n i s1 hi ⟨⟨h1, h0⟩, h2⟩ ih
    rw [d7_wets_L2, ncl (by omega), h1.2.2.1 i hi]
    refine br_f (nle (a := 12) hi (by omega)) ⟨nin (by omega) (by omega), ?_⟩
    intro v3 e3
    subst e3
    have g := h0.1 i hi
    have ih2 : ∀ w, w = f (dm (it (fun p S => s_dm S p (f (dm S p))) i S) i) → d7_wets_L2 by_ (fun s6 => Q s6) Q n (nI (i + 1)) (xuA s1 13 17 i (nI w)) := fun w hw => by
      subst hw
      exact ih _ ⟨⟨h1.dm i rfl, h0.dm (hf _ g)⟩, h2.uA rfl⟩
    rcases hw _ (show dm (it (fun p S => s_dm S p (f (dm S p))) i S) i < 10 by omega) with ⟨q1, q2⟩ | ⟨q1, q2, q3⟩ | ⟨q1, q2, q3⟩
    · refine br_f q1 ⟨nin (by omega) (by omega), ?_⟩
      intro s4 e4 v5 e5
      subst e4 e5
      rw [nI_1]
      exact ih2 0 q2.symm
    · refine br_t q1 (br_f q2 ⟨nin (by omega) (by omega), ?_⟩)
      intro s4 e4 v5 e5
      subst e4 e5
      rw [nI_1]
      exact ih2 9 q3.symm
    · refine br_t q1 (br_t q2 ⟨nin (by omega) (by omega), ?_⟩)
      intro s4 e4 v5 e5
      subst e4 e5
      rw [nI_1, q3]
      exact ih2 _ rfl
set_option maxHeartbeats 4000000 in
theorem l7_befalls {b : Bl} {h e : Nat} {S : Sm} {s : xSt} {Q : xSt → Prop} {x : Ev} (hb : VB b) (hV : VS b S) (hR : R7 b S s) (he : e < 9) (hx : x.1 < 4 ∧ x.2.1 = h ∧ x.2.2 < 12) (h1 : xA s 13 13 e = nI x.1) (h2 : xA s 13 14 e = nI x.2.1) (h3 : xA s 13 15 e = nI x.2.2) (hq : ∀ s', R7 b (s_ev b h S x) s' → xk kp7 s s' → Q s') : d7_befalls (nI e) s Q := by
  unfold d7_befalls jn
  rw [ncl (by omega), h1, h2]
  refine ⟨nin (by omega) (by omega), ?_⟩
  intro v2 e2
  subst e2
  obtain ⟨x1, x2, x3⟩ := hx
  have e0 : s_ev b h S x = (if x.1 = 0 then s_lift b h S else if x.1 = 1 then s_pepper b x.2.2 S else if x.1 = 2 then s_wet s_frost S else s_wet s_rain S) := if_pos x2
  rw [e0] at hq
  rcases (show x.1 = 0 ∨ x.1 = 1 ∨ x.1 = 2 ∨ x.1 = 3 by omega) with c | c | c | c
  · rw [c] at hq ⊢
    refine bn_t rfl ⟨nin (by omega) (by omega), ?_⟩
    rw [x2]
    refine l7_lifts hb hR fun s' r1 r2 => ?_
    refine bn_f (by decide) (br_t (by decide) (hq s' r1 r2))
  · rw [c] at hq ⊢
    refine bn_f (by decide) (bn_t rfl ⟨nin (by omega) (by omega), ?_⟩)
    rw [h3]
    refine l7_peppers hb x3 hV hR fun s' r1 r2 => ?_
    exact br_t (by decide) (hq s' r1 r2)
  · rw [c] at hq ⊢
    refine bn_f (by decide) (bn_f (by decide) (br_f (by decide) (bn_t rfl ?_)))
    exact l7_wets f_frost wok_frost hV hR fun s' r1 r2 => hq s' r1 r2
  · rw [c] at hq ⊢
    refine bn_f (by decide) (bn_f (by decide) (br_f (by decide) (bn_f (by decide) ?_)))
    exact l7_wets f_rain wok_rain hV hR fun s' r1 r2 => hq s' r1 r2
set_option maxHeartbeats 4000000 in
theorem l7_in {a lo hi : Int32} {s : xSt} {Q : Int32 → xSt → Prop} (h0 : a < lo ∨ hi < a → Q 0 s) (h1 : ¬ a < lo → ¬ hi < a → Q 1 s) : d7_in a lo hi s Q :=
  ⟨fun c => h0 (Or.inl c), fun c => ⟨fun d => h0 (Or.inr d), fun d => h1 c d⟩⟩
set_option maxHeartbeats 4000000 in
theorem l7_isRolled {b : Bl} {h k : Nat} {S : Sm} {s : xSt} {Q : Int32 → xSt → Prop} (hb : VB b) (hV : VS b S) (hR : R7 b S s) (hk : k < bm b) (hh : h < 20) (q0 : ¬ h < un S k → Q 0 s) (q1 : h < un S k → Q 1 s) : d7_isRolled (nI k) (nI h) s Q := by
  have hm := hb.1
  have hu := hV.2.2.2 k hk
  unfold d7_isRolled
  rw [ncl (by omega), hR.2.2.2.2.2.1 k hk]
  refine ⟨nin (by omega) (by omega), fun c => q0 ?_, fun c => q1 ?_⟩
  · have := (nI_leI (by omega) (by omega)).mp c; omega
  · have : ¬ un S k ≤ h := fun q => c (nI_le q (by omega)); omega
set_option maxHeartbeats 4000000 in
theorem l7_less {b : Bl} {p : Nat} {S : Sm} {s : xSt} {Q : Int32 → xSt → Prop} (hR : R7 b S s) (hp : p < 12) (hq : Q (pm (s_less S p)) s) : d7_dampNow (nI p - 1) s Q := by
  unfold d7_dampNow d7_isPlace
  cases p with
  | zero => exact l7_in (fun _ => br_t rfl hq) (fun c => absurd (by decide) c)
  | succ p =>
    rw [nI_pred]
    refine l7_in (fun c => ?_) (fun _ _ => br_f (by decide) ⟨nin (by omega) (by omega), ?_⟩)
    · rcases c with c | c
      · exact absurd c (nI_pos (by omega))
      · exact absurd c (nlt (b := p) (a := 11) (by omega) (by omega))
    · rw [ncl (by omega), hR.2.2.1 p (by omega)]
      have e : s_less S (p + 1) = dm S p + 1 := if_pos (by omega)
      rw [e, pm_s] at hq
      exact hq
set_option maxHeartbeats 4000000 in
theorem l7_more {b : Bl} {p : Nat} {S : Sm} {s : xSt} {Q : Int32 → xSt → Prop} (hR : R7 b S s) (hp : p < 12) (hq : Q (pm (s_more S p)) s) : d7_dampNow (nI p + 1) s Q := by
  unfold d7_dampNow d7_isPlace
  rw [nI_1]
  by_cases h : p + 1 < 12
  · refine l7_in (fun c => ?_) (fun _ _ => br_f (by decide) ⟨nin (by omega) (by omega), ?_⟩)
    · rcases c with c | c
      · exact absurd c (nI_pos (by omega))
      · exact absurd c (nlt (b := p + 1) (a := 11) (by omega) (by omega))
    · rw [ncl (by omega), hR.2.2.1 (p + 1) (by omega)]
      have e : s_more S p = dm S (p + 1) + 1 := if_pos h
      rw [e, pm_s] at hq
      exact hq
  · have e : s_more S p = 0 := if_neg h
    rw [e] at hq
    refine l7_in (fun _ => br_t rfl hq) (fun _ c => absurd ?_ c)
    exact nI_lt (show 11 < p + 1 by omega) (by omega)
def omat (h : Nat) (S : Sm) (k j : Nat) : Prop := ¬ j = k ∧ ps S j = ps S k ∧ ¬ h < un S j
set_option maxHeartbeats 4000000 in
theorem s_over_none {b : Bl} {h k : Nat} {S : Sm} : ∀ n, (∀ j, j < n → ¬ omat h S k j) → s_over b h S k n = none := by
  intro n
  induction n with
  | zero => intro _; rfl
  | succ n ih =>
    intro hn
    have e := ih (fun j hj => hn j (by omega))
    show (match s_over b h S k n with | some i => some i | none => if _ then _ else _) = _
    rw [e]
    exact if_neg (hn n (Nat.lt_succ_self n))
set_option maxHeartbeats 4000000 in
theorem s_over_some {b : Bl} {h k j : Nat} {S : Sm} (hj : omat h S k j) (hl : ∀ i, i < j → ¬ omat h S k i) : ∀ n, j < n → s_over b h S k n = some j := by
  intro n
  induction n with
  | zero => intro hn; omega
  | succ n ih =>
    intro hn
    show (match s_over b h S k n with | some i => some i | none => if _ then _ else _) = _
    rcases Nat.lt_or_ge j n with g | g
    · rw [ih g]
    · have e : j = n := by omega
      subst e
      rw [s_over_none j hl]
      exact if_pos hj
