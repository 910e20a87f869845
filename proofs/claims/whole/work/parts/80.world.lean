-- the two worlds as rows behind b
def td0 : Td := (0, fun _ => 0, 0, fun _ => 0, 0, fun _ => (0, 0, 0), 0, fun _ => (0, 0, 0), fun _ => -1, fun _ => 0, fun _ _ => 0, 0)
set_option maxHeartbeats 4000000 in
theorem VT_td0 : VT td0 := ⟨Nat.zero_le _, Nat.zero_le _, Nat.zero_le _, fun e he => absurd he (Nat.not_lt_zero e), Nat.zero_le _, fun i hi => absurd hi (Nat.not_lt_zero i), fun _ _ => Or.inl rfl, fun _ _ => Nat.zero_le _⟩
set_option maxHeartbeats 4000000 in
theorem X6_s0 : X6 td0 s0 := ⟨rfl, fun j hj => absurd hj (Nat.not_lt_zero j), rfl, fun j hj => absurd hj (Nat.not_lt_zero j)⟩
/-- behind readStone -/
def sP (s : xSt) : Prop := (∀ p, p < 12 → xA s 3 0 p = nI (t_dm td0 p)) ∧ xk k60 s0 s
set_option maxHeartbeats 4000000 in
theorem z_cl_out {o : Nat} (h : 4 ≤ o) : z_cl o = 9 := gd_out h
set_option maxHeartbeats 4000000 in
theorem z_sub {ad : xAd} {G : xG} {s : xSt} {o f r : Nat} {e : va_E} (h : z_ent ad G s o f r = some e) : x_ent ad G s o f r = some e := by
  rcases Nat.lt_or_ge o 4 with c | c
  · rcases (show o = 0 ∨ o = 1 ∨ o = 2 ∨ o = 3 by omega) with q | q | q | q
    · subst q
      cases f with
      | zero => cases r with
        | zero => exact h
        | succ r => exact h
      | succ k => cases r with
        | zero => have h : (none : Option va_E) = some e := h
                  cases h
        | succ r => have h : (none : Option va_E) = some e := h
                    cases h
    · subst q
      cases f <;> cases r <;> exact h
    · subst q
      cases f <;> cases r <;> (have h : (none : Option va_E) = some e := h; cases h)
    · subst q
      cases f <;> cases r <;> exact h
  · unfold z_ent at h
    rw [z_cl_out c] at h
    cases f <;> cases r <;> (have h : (none : Option va_E) = some e := h; cases h)
set_option maxHeartbeats 4000000 in
theorem z_dom_ent {ad : xAd} {G : xG} {s : xSt} {o f r : Nat} (h : z_dom o f r = true) : ∃ e, z_ent ad G s o f r = some e := by
  cases f with
  | zero => cases r with
    | zero => exact ⟨_, if_pos (of_decide_eq_true h)⟩
    | succ r => cases h
  | succ k => cases r with
    | zero =>
      have h : (z_ar (z_cl o) o k).isSome = true := h
      unfold z_ent
      dsimp only
      split
      · exact ⟨_, rfl⟩
      · exact ⟨_, rfl⟩
      · exact ⟨_, rfl⟩
      · exact ⟨_, rfl⟩
      · rename_i q
        rw [q] at h; cases h
    | succ r =>
      unfold z_dom at h
      unfold z_ent
      dsimp only at h ⊢
      split at h
      · exact ⟨_, if_pos (of_decide_eq_true h)⟩
      · cases h
set_option maxHeartbeats 4000000 in
theorem x_dom_ent {ad : xAd} {G : xG} {s : xSt} {o f r : Nat} (h : x_dom o f r = true) : ∃ e, x_ent ad G s o f r = some e := by
  cases f with
  | zero => cases r with
    | zero => exact ⟨_, if_pos (of_decide_eq_true h)⟩
    | succ r => cases h
  | succ k => cases r with
    | zero =>
      have h : (x_ar (x_cl o) o k).isSome = true := h
      unfold x_ent
      dsimp only
      split
      · exact ⟨_, rfl⟩
      · exact ⟨_, rfl⟩
      · exact ⟨_, rfl⟩
      · exact ⟨_, rfl⟩
      · rename_i q
        rw [q] at h; cases h
    | succ r =>
      unfold x_dom at h
      unfold x_ent
      dsimp only at h ⊢
      split at h
      · exact ⟨_, if_pos (of_decide_eq_true h)⟩
      · cases h
set_option maxHeartbeats 4000000 in
theorem z_domx {o f r : Nat} (h : z_dom o f r = true) : x_dom o f r = true := by
  obtain ⟨e, he⟩ := z_dom_ent (ad := adS 0) (G := ((fun _ => 0, fun _ _ => 0), 0, 0, 0, 0)) (s := s0) h
  exact x_ent_dom (z_sub he)
set_option maxHeartbeats 4000000 in
theorem z_dom_o {o f r : Nat} (h : z_dom o f r = true) : o < 4 := by
  rcases Nat.lt_or_ge o 4 with c | c
  · exact c
  · unfold z_dom at h
    rw [z_cl_out c] at h
    cases f <;> cases r <;> cases h
set_option maxHeartbeats 4000000 in
theorem ix_4 : ∀ o, o < 4 → ∀ f, f < 43 → ∀ r, r < 21 → (!(x_dom o f r) || decide (ix o f r < 331)) = true := by decide +kernel
set_option maxHeartbeats 4000000 in
theorem ix_13 : ∀ o, o < 14 → ∀ f, f < 43 → ∀ r, r < 21 → (!(x_dom o f r) || (if o = 13 then decide (331 ≤ ix o f r) else decide (ix o f r < 331))) = true := by decide +kernel
set_option maxHeartbeats 4000000 in
theorem iv_ix0 : ∀ k, k < 366 → (x_dom (iv k).1 (iv k).2.1 (iv k).2.2 && decide (ix (iv k).1 (iv k).2.1 (iv k).2.2 = k)) = true := by decide +kernel
set_option maxHeartbeats 4000000 in
theorem ix_lt {o f r : Nat} (h : x_dom o f r = true) : (o = 13 → 331 ≤ ix o f r) ∧ (¬ o = 13 → ix o f r < 331) := by
  obtain ⟨g1, g2, g3⟩ := x_dom_lt h
  have g := ix_13 o g1 f g2 r g3
  rw [h] at g
  simp only [Bool.not_true, Bool.false_or] at g
  by_cases c : o = 13
  · rw [if_pos c] at g
    exact ⟨fun _ => of_decide_eq_true g, fun q => absurd c q⟩
  · rw [if_neg c] at g
    exact ⟨fun q => absurd q c, fun _ => of_decide_eq_true g⟩
set_option maxHeartbeats 4000000 in
theorem iv_ix {k : Nat} (h : k < 366) : ∃ o f r, iv k = (o, f, r) ∧ x_dom o f r = true ∧ ix o f r = k := by
  have g := iv_ix0 k h
  rw [Bool.and_eq_true] at g
  exact ⟨_, _, _, rfl, g.1, of_decide_eq_true g.2⟩
set_option maxHeartbeats 4000000 in
theorem ix_inj {o f r o' f' r' : Nat} (h : x_dom o f r = true) (h' : x_dom o' f' r' = true) (e : ix o f r = ix o' f' r') : o = o' ∧ f = f' ∧ r = r' := by
  have g := (ix_iv h).2
  rw [e, (ix_iv h').2] at g
  have a := congrArg (fun q : Nat × Nat × Nat => q.1) g
  have b := congrArg (fun q : Nat × Nat × Nat => q.2.1) g
  have c := congrArg (fun q : Nat × Nat × Nat => q.2.2) g
  exact ⟨a.symm, b.symm, c.symm⟩
set_option maxHeartbeats 4000000 in
theorem zxJ_S {b : Nat} : zxJ (adS b) := fun o f r o' f' r' h h' e => ix_inj (z_domx h) (z_domx h') (by unfold adS at e; omega)
/-- N cells behind b -/
def RW (G : xG) (b : Nat) (s : xSt) (N : Nat) (H : Heap) : Prop := ∀ k, k < N → va_at G.1 x_cls (b + k, rowE G b s k) H
set_option maxHeartbeats 4000000 in
theorem RW.z {G : xG} {b : Nat} {s : xSt} {H : Heap} (h : RW G b s 331 H) : zxP (adS b) G s H := fun o f r e he => by
  have hx := z_sub he
  have hd := x_ent_dom hx
  have o4 := z_dom_o (z_ent_dom he)
  have g := h (ix o f r) ((ix_lt hd).2 (by omega))
  rw [rowE_of (ix_iv hd).2 hx] at g
  exact g
set_option maxHeartbeats 4000000 in
theorem x_fl_eq {ad : xAd} {s s' : xSt} {c o : Nat} (hI : ∀ o k, xI s' o k = xI s o k) : x_fl ad s' c o = x_fl ad s c o := by
  unfold x_fl
  split <;> simp only [hI]
set_option maxHeartbeats 4000000 in
theorem x_ent_eq {ad : xAd} {G : xG} {s s' : xSt} {o f r : Nat} (hI : ∀ o k, xI s' o k = xI s o k) (hA : ∀ k, f = k + 1 → r = 0 → xA s' o k = xA s o k) (hB : ∀ o k r, xB s' o k r = xB s o k r) : x_ent ad G s' o f r = x_ent ad G s o f r := by
  cases f with
  | zero => cases r with
    | zero => simp only [x_ent, x_fl_eq hI]
    | succ r => rfl
  | succ k => cases r with
    | zero => simp only [x_ent, hA k rfl rfl]
    | succ r => simp only [x_ent, hB]
set_option maxHeartbeats 4000000 in
theorem k60_I {s : xSt} (h : xk k60 s0 s) : (∀ o k, xI s o k = xI s0 o k) ∧ (∀ o k r, xB s o k r = xB s0 o k r) ∧ (∀ o k, ¬ (o = 3 ∧ k = 0) → xA s o k = xA s0 o k) := by
  refine ⟨fun o k => h.1 o k ?_, fun o k r => h.2.2 o k r ?_, fun o k q => h.2.1 o k ?_⟩
  · simp [k60]
  · simp [k60]
  · simp only [k60, Bool.not_eq_true', Bool.and_eq_false_iff, beq_eq_false_iff_ne]
    omega
set_option maxHeartbeats 4000000 in
theorem rowE_same {G : xG} {b : Nat} {s : xSt} {k : Nat} (hk : k < 366) (h : xk k60 s0 s) (h6 : ¬ k = 6) : rowE G b s k = rowE G b s0 k := by
  obtain ⟨o, f, r, e1, e2, e3⟩ := iv_ix hk
  obtain ⟨e, he⟩ := x_dom_ent (ad := adS b) (G := G) (s := s0) e2
  obtain ⟨hI, hB, hA⟩ := k60_I h
  have q : x_ent (adS b) G s o f r = some e := by
    rw [x_ent_eq (s := s0) hI (fun k9 a c => hA o k9 (fun z => ?_)) hB]
    · exact he
    · obtain ⟨z1, z2⟩ := z
      subst z1 z2 a c
      exact h6 (e3.symm.trans (by decide))
  rw [rowE_of e1 q, rowE_of e1 he]
set_option maxHeartbeats 4000000 in
/-- behind readStone: the rows with the new register -/
theorem RW.back {G : xG} {b : Nat} {s : xSt} {H H1 : Heap} (h : RW G b s0 331 H) (hp : sP s) (hz : zxP (adS b) G s H1) (hq : ∀ q, q < H.size → ¬ zxW (adS b) q → H1[q]? = H[q]?) : RW G b s 331 H1 := by
  intro k hk
  obtain ⟨o, f, r, e1, e2, e3⟩ := iv_ix (show k < 366 by omega)
  by_cases c : z_dom o f r = true
  · obtain ⟨e, he⟩ := z_dom_ent (ad := adS b) (G := G) (s := s) c
    have g := hz o f r e he
    rw [rowE_of e1 (z_sub he)]
    unfold adS at g
    rw [e3] at g
    exact g
  · have g := h k hk
    have h6 : ¬ k = 6 := fun z => by
      subst z
      have : (o, f, r) = (3, 1, 0) := e1.symm.trans (by decide)
      cases this
      exact c (by decide)
    rw [rowE_same (by omega) hp.2 h6]
    refine g.kept (hq _ g.lt ?_)
    rintro ⟨o', f', r', d', q'⟩
    unfold adS at q'
    have := ix_inj e2 (z_domx d') (by omega)
    obtain ⟨z1, z2, z3⟩ := this
    subst z1 z2 z3
    exact c d'
