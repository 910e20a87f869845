-- where everything lies
def ixo (o : Nat) : Nat := [0, 1, 3, 5, 13, 21, 158, 295, 299, 323, 325, 327, 329, 331].getD o 0
def ix7 (f : Nat) : Nat := if f ≤ 2 then f else if f ≤ 4 then f - 1 else if f ≤ 8 then f - 2 else if f ≤ 12 then f - 3 else if f ≤ 16 then f - 4 else if f ≤ 22 then f - 5 else if f ≤ 31 then f - 6 else f - 7
def ix (o f r : Nat) : Nat := match x_cl o with
  | 6 => if f = 0 then 0 else if f = 9 then 300 else if f = 10 then 301 + r else 322
  | 1 => ixo o + (if f ≤ 4 then f else f - 1)
  | 2 => ixo o + (if f ≤ 8 then f else if f ≤ 16 then 9 + 21 * (f - 11) + r else f + 118)
  | 7 => ixo o + ix7 f
  | _ => ixo o + f
def ivB (i : Nat) : Nat := if i ≤ 4 then i else i + 1
def ivC (i : Nat) : Nat := if i < 9 then i else if i < 135 then 11 + (i - 9) / 21 else i - 118
def ivR (i : Nat) : Nat := if i < 9 then 0 else if i < 135 then (i - 9) % 21 else 0
def iv7 (i : Nat) : Nat := if i ≤ 2 then i else if i ≤ 3 then i + 1 else if i ≤ 6 then i + 2 else if i ≤ 9 then i + 3 else if i ≤ 12 then i + 4 else if i ≤ 17 then i + 5 else if i ≤ 25 then i + 6 else i + 7
def iv (k : Nat) : Nat × Nat × Nat :=
  if k < 1 then (0, 0, 0) else if k < 3 then (1, k - 1, 0) else if k < 5 then (2, k - 3, 0) else if k < 13 then (3, ivB (k - 5), 0) else if k < 21 then (4, ivB (k - 13), 0) else if k < 158 then (5, ivC (k - 21), ivR (k - 21)) else if k < 295 then (6, ivC (k - 158), ivR (k - 158)) else if k < 299 then (7, k - 295, 0) else if k < 300 then (8, 0, 0) else if k < 301 then (0, 9, 0) else if k < 322 then (0, 10, k - 301) else if k < 323 then (0, 11, 0) else if k < 325 then (9, k - 323, 0) else if k < 327 then (10, k - 325, 0) else if k < 329 then (11, k - 327, 0) else if k < 331 then (12, k - 329, 0) else (13, iv7 (k - 331), 0)
set_option maxHeartbeats 4000000 in
theorem gd_out {α : Type} {l : List α} {d : α} {i : Nat} (h : l.length ≤ i) : l.getD i d = d := by
  rw [List.getD_eq_getElem?_getD, List.getElem?_eq_none h]; rfl
set_option maxHeartbeats 4000000 in
theorem x_cl_lt {o : Nat} (h : x_cl o < 8) : o < 14 := by
  rcases Nat.lt_or_ge o 14 with c | c
  · exact c
  · have : x_cl o = 9 := gd_out (by show 14 ≤ o; exact c)
    omega
set_option maxHeartbeats 4000000 in
theorem x_ar_lt {o k : Nat} (h : (x_ar (x_cl o) o k).isSome = true) : o < 14 ∧ k < 42 := by
  have o14 : o < 14 := by
    rcases Nat.lt_or_ge o 14 with c | c
    · exact c
    · have : x_cl o = 9 := gd_out (by show 14 ≤ o; exact c)
      rw [this] at h; cases h
  refine ⟨o14, ?_⟩
  rcases Nat.lt_or_ge k 42 with c | c
  · exact c
  · have n0 : x_ar0 o k = none := gd_out (Nat.le_trans (by decide) c)
    have n1 : x_ar1 o k = none := gd_out (Nat.le_trans (by decide) c)
    have n2 : x_ar2 o k = none := gd_out (Nat.le_trans (by decide) c)
    have n3 : x_ar3 o k = none := gd_out (Nat.le_trans (by decide) c)
    have n4 : x_ar4 o k = none := gd_out (Nat.le_trans (by decide) c)
    have n5 : x_ar5 o k = none := gd_out (Nat.le_trans (by show 2 ≤ 42; decide) c)
    have n6 : x_ar6 o k = none := gd_out (Nat.le_trans (by decide) c)
    have n7 : x_ar7 o k = none := gd_out c
    unfold x_ar at h
    split at h <;> simp_all
set_option maxHeartbeats 4000000 in
theorem x_dom_lt {o f r : Nat} (h : x_dom o f r = true) : o < 14 ∧ f < 43 ∧ r < 21 := by
  unfold x_dom at h
  split at h
  · exact ⟨x_cl_lt (of_decide_eq_true h), by omega, by omega⟩
  · cases h
  · have g := x_ar_lt h
    exact ⟨g.1, by omega, by omega⟩
  · rename_i k r
    split at h
    · rename_i q
      have g := x_ar_lt (o := o) (k := k) (by rw [q]; rfl)
      have := of_decide_eq_true h
      exact ⟨g.1, by omega, by omega⟩
    · cases h
def ixok (o f r : Nat) : Bool := !(x_dom o f r) || (decide (ix o f r < 366) && (decide ((iv (ix o f r)).1 = o) && (decide ((iv (ix o f r)).2.1 = f) && decide ((iv (ix o f r)).2.2 = r))))
set_option maxHeartbeats 4000000 in
theorem ix_iv0 : ∀ o, o < 14 → ∀ f, f < 43 → ∀ r, r < 21 → ixok o f r = true := by decide +kernel
set_option maxHeartbeats 4000000 in
theorem ix_iv {o f r : Nat} (h : x_dom o f r = true) : ix o f r < 366 ∧ iv (ix o f r) = (o, f, r) := by
  obtain ⟨g1, g2, g3⟩ := x_dom_lt h
  have g := ix_iv0 o g1 f g2 r g3
  unfold ixok at g
  rw [h] at g
  simp only [Bool.not_true, Bool.false_or, Bool.and_eq_true, decide_eq_true_eq] at g
  obtain ⟨a1, a2, a3, a4⟩ := g
  refine ⟨a1, ?_⟩
  exact Prod.ext a2 (Prod.ext a3 a4)
/-- behind b, in this order -/
def adS (b : Nat) : xAd := fun o f r => b + ix o f r
def rowE (G : xG) (b : Nat) (s : xSt) (k : Nat) : va_E := match x_ent (adS b) G s (iv k).1 (iv k).2.1 (iv k).2.2 with
  | some e => e
  | none => .inr (0, [])
set_option maxHeartbeats 4000000 in
theorem rowE_of {G : xG} {b : Nat} {s : xSt} {k o f r : Nat} {e : va_E} (h : iv k = (o, f, r)) (he : x_ent (adS b) G s o f r = some e) : rowE G b s k = e := by
  unfold rowE
  rw [h]
  show (match x_ent (adS b) G s o f r with | some e => e | none => _) = e
  rw [he]
set_option maxHeartbeats 4000000 in
theorem rowE_a {G : xG} {b : Nat} {s : xSt} {K o k m : Nat} (h : iv K = (o, k + 1, 0)) (ha : x_ar (x_cl o) o k = some (0, m)) : rowE G b s K = .inl (G.2.1, m, .inl (xA s o k)) := rowE_of h (x_ent_a ha)
set_option maxHeartbeats 4000000 in
theorem rowE_z {G : xG} {b : Nat} {s : xSt} {K o k m : Nat} (h : iv K = (o, k + 1, 0)) (ha : x_ar (x_cl o) o k = some (1, m)) : rowE G b s K = .inl (G.2.2.1, m, .inl (xA s o k)) := rowE_of h (x_ent_z ha)
set_option maxHeartbeats 4000000 in
theorem rowE_o {G : xG} {b : Nat} {s : xSt} {K o c : Nat} {fs : List Value} (h : iv K = (o, 0, 0)) (hc : x_cl o = c) (h8 : c < 8) (hf : x_fl (adS b) s c o = fs) : rowE G b s K = .inr (c, fs) := by
  subst hf
  exact rowE_of h (x_ent_o hc h8)
set_option maxHeartbeats 4000000 in
theorem rowE_g {G : xG} {b : Nat} {s : xSt} {K o k m : Nat} (h : iv K = (o, k + 1, 0)) (ha : x_ar (x_cl o) o k = some (2, m)) (hx : ∀ j, j < 20 → ix o (k + 1) (j + 1) = K + 1 + j) {n r : Nat} (hn : n + r = b + K) : rowE G b s K = .inl (G.2.2.2.2, 20, .inr (.inr (.inr (.inr (fun j => if j < 20 then some (n + r + 1 + j) else none))))) := by
  rw [rowE_of h (x_ent_g ha), hn]
  have e : x_q (adS b) o k = fun j => if j < 20 then some (b + K + 1 + j) else none := funext fun j => by
    unfold x_q adS
    by_cases c : j < 20
    · rw [if_pos c, if_pos c, hx j c]
      congr 1
      omega
    · rw [if_neg c, if_neg c]
  rw [e]
set_option maxHeartbeats 4000000 in
theorem rowE_r {G : xG} {b : Nat} {s : xSt} {K o k m j : Nat} (hj : j < 20) (h : iv K = (o, k + 1, j + 1)) (ha : x_ar (x_cl o) o k = some (2, m)) : rowE G b s K = .inl (G.2.1, m, .inl (xB s o k j)) := rowE_of h (x_ent_r ha hj)
/-- the registers behind the constructors, ahead of readStone -/
def s0 : xSt := (fun o k => if (o = 9 ∨ o = 10 ∨ o = 11 ∨ o = 12) ∧ k = 1 then -1 else if o = 0 ∧ k = 11 then 1 else 0, fun _ _ _ => 0, fun _ _ _ _ => 0)
