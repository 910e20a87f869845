-- reads behind writes
set_option maxHeartbeats 4000000 in
theorem xI_xsI (σ : xSt) (o k o' k' : Nat) (v : Int32) : xI (xsI σ o k v) o' k' = if o' = o ∧ k' = k then v else xI σ o' k' := rfl
set_option maxHeartbeats 4000000 in
theorem xI_xsI_eq (σ : xSt) (o k : Nat) (v : Int32) : xI (xsI σ o k v) o k = v := if_pos ⟨rfl, rfl⟩
set_option maxHeartbeats 4000000 in
theorem xI_xsI_ne {σ : xSt} {o k o' k' : Nat} {v : Int32} (h : ¬ (o' = o ∧ k' = k)) : xI (xsI σ o k v) o' k' = xI σ o' k' := if_neg h
set_option maxHeartbeats 4000000 in
theorem xA_xsI (σ : xSt) (o k : Nat) (v : Int32) : xA (xsI σ o k v) = xA σ := rfl
set_option maxHeartbeats 4000000 in
theorem xB_xsI (σ : xSt) (o k : Nat) (v : Int32) : xB (xsI σ o k v) = xB σ := rfl
set_option maxHeartbeats 4000000 in
theorem xI_xsA (σ : xSt) (o k : Nat) (f : Nat → Int32) : xI (xsA σ o k f) = xI σ := rfl
set_option maxHeartbeats 4000000 in
theorem xB_xsA (σ : xSt) (o k : Nat) (f : Nat → Int32) : xB (xsA σ o k f) = xB σ := rfl
set_option maxHeartbeats 4000000 in
theorem xA_xsA_eq (σ : xSt) (o k : Nat) (f : Nat → Int32) : xA (xsA σ o k f) o k = f := if_pos ⟨rfl, rfl⟩
set_option maxHeartbeats 4000000 in
theorem xA_xsA_ne {σ : xSt} {o k o' k' : Nat} {f : Nat → Int32} (h : ¬ (o' = o ∧ k' = k)) : xA (xsA σ o k f) o' k' = xA σ o' k' := if_neg h
set_option maxHeartbeats 4000000 in
theorem xI_xuA (σ : xSt) (o k j : Nat) (v : Int32) : xI (xuA σ o k j v) = xI σ := rfl
set_option maxHeartbeats 4000000 in
theorem xB_xuA (σ : xSt) (o k j : Nat) (v : Int32) : xB (xuA σ o k j v) = xB σ := rfl
set_option maxHeartbeats 4000000 in
theorem xA_xuA_eq (σ : xSt) (o k j : Nat) (v : Int32) : xA (xuA σ o k j v) o k = upd (xA σ o k) j v := if_pos ⟨rfl, rfl⟩
set_option maxHeartbeats 4000000 in
theorem xA_xuA_ne {σ : xSt} {o k o' k' j : Nat} {v : Int32} (h : ¬ (o' = o ∧ k' = k)) : xA (xuA σ o k j v) o' k' = xA σ o' k' := if_neg h
set_option maxHeartbeats 4000000 in
theorem xI_xuB (σ : xSt) (o k r j : Nat) (v : Int32) : xI (xuB σ o k r j v) = xI σ := rfl
set_option maxHeartbeats 4000000 in
theorem xA_xuB (σ : xSt) (o k r j : Nat) (v : Int32) : xA (xuB σ o k r j v) = xA σ := rfl
set_option maxHeartbeats 4000000 in
theorem xB_xuB_eq (σ : xSt) (o k r j : Nat) (v : Int32) : xB (xuB σ o k r j v) o k r = upd (xB σ o k r) j v := if_pos ⟨rfl, rfl, rfl⟩
set_option maxHeartbeats 4000000 in
theorem xB_xuB_ne {σ : xSt} {o k r o' k' r' j : Nat} {v : Int32} (h : ¬ (o' = o ∧ k' = k ∧ r' = r)) : xB (xuB σ o k r j v) o' k' r' = xB σ o' k' r' := if_neg h
set_option maxHeartbeats 4000000 in
theorem upd_eq (f : Nat → Int32) (j : Nat) (v : Int32) : upd f j v j = v := if_pos rfl
set_option maxHeartbeats 4000000 in
theorem upd_ne {f : Nat → Int32} {j i : Nat} {v : Int32} (h : ¬ i = j) : upd f j v i = f i := if_neg h
set_option maxHeartbeats 4000000 in
theorem upd_ap (f : Nat → Int32) (j i : Nat) (v : Int32) : upd f j v i = if i = j then v else f i := rfl
-- numbers
set_option maxHeartbeats 4000000 in
theorem l_0 : (0 : Int32) = nI 0 := rfl
set_option maxHeartbeats 4000000 in
theorem l_1 : (1 : Int32) = nI 1 := rfl
set_option maxHeartbeats 4000000 in
theorem l_2 : (2 : Int32) = nI 2 := rfl
set_option maxHeartbeats 4000000 in
theorem l_3 : (3 : Int32) = nI 3 := rfl
set_option maxHeartbeats 4000000 in
theorem l_4 : (4 : Int32) = nI 4 := rfl
set_option maxHeartbeats 4000000 in
theorem l_8 : (8 : Int32) = nI 8 := rfl
set_option maxHeartbeats 4000000 in
theorem l_9 : (9 : Int32) = nI 9 := rfl
set_option maxHeartbeats 4000000 in
theorem l_12 : (12 : Int32) = nI 12 := rfl
set_option maxHeartbeats 4000000 in
theorem l_20 : (20 : Int32) = nI 20 := rfl
/-- iterate -/
def it {α : Type} (f : Nat → α → α) : Nat → α → α
  | 0, x => x
  | n + 1, x => f n (it f n x)
set_option maxHeartbeats 4000000 in
/-- a loop that counts up -/
theorem lp {α : Type} (F : Nat → Nat → α → Prop) (I : Nat → α → Prop) (N : Nat) (hx : ∀ n s, I N s → F (n + 1) N s) (hs : ∀ n i s, i < N → I i s → (∀ s', I (i + 1) s' → F n (i + 1) s') → F (n + 1) i s) : ∀ (n i : Nat) (s : α), i ≤ N → N - i < n → I i s → F n i s := by
  intro n
  induction n with
  | zero => intro i s h1 h2; omega
  | succ n ih =>
    intro i s h1 h2 h3
    rcases Nat.lt_or_ge i N with h | h
    · exact hs n i s h h3 (fun s' h' => ih (i + 1) s' (by omega) (by omega) h')
    · have e : i = N := by omega
      subst e
      exact hx n s h3
set_option maxHeartbeats 4000000 in
theorem lp0 {α : Type} (F : Nat → Nat → α → Prop) (I : Nat → α → Prop) (N : Nat) (hN : N < 1000) (hx : ∀ n s, I N s → F (n + 1) N s) (hs : ∀ n i s, i < N → I i s → (∀ s', I (i + 1) s' → F n (i + 1) s') → F (n + 1) i s) (s : α) (h : I 0 s) : F x_lim 0 s := lp F I N hx hs x_lim 0 s (Nat.zero_le _) (by show N - 0 < 1000; omega) h
-- what runs
abbrev Ev : Type := Nat × Nat × Nat
abbrev Sm : Type := (Nat → Nat) × (Nat → Nat) × (Nat → Nat) × (Nat → Nat) × (Nat → Nat) × Int32
abbrev Bl : Type := Nat × (Nat → Nat) × (Nat → Nat) × (Nat → Nat) × (Nat → Nat) × List Ev
def fu (f : Nat → Nat) (k v : Nat) : Nat → Nat := fun j => if j = k then v else f j
set_option maxHeartbeats 4000000 in
theorem fu_eq (f : Nat → Nat) (k v : Nat) : fu f k v k = v := if_pos rfl
set_option maxHeartbeats 4000000 in
theorem fu_ne {f : Nat → Nat} {k v j : Nat} (h : ¬ j = k) : fu f k v j = f j := if_neg h
set_option maxHeartbeats 4000000 in
theorem fu_ap (f : Nat → Nat) (k v j : Nat) : fu f k v j = if j = k then v else f j := rfl
def bm (b : Bl) : Nat := b.1
def bs (b : Bl) : Nat → Nat := b.2.1
def bd (b : Bl) : Nat → Nat := b.2.2.1
def bp (b : Bl) : Nat → Nat := b.2.2.2.1
def bu (b : Bl) : Nat → Nat := b.2.2.2.2.1
def be (b : Bl) : List Ev := b.2.2.2.2.2
def dm (S : Sm) : Nat → Nat := S.1
def ps (S : Sm) : Nat → Nat := S.2.1
def up (S : Sm) : Nat → Nat := S.2.2.1
def un (S : Sm) : Nat → Nat := S.2.2.2.1
def sc (S : Sm) : Nat → Nat := S.2.2.2.2.1
def wt (S : Sm) : Int32 := S.2.2.2.2.2
def s_dm (S : Sm) (k v : Nat) : Sm := (fu (dm S) k v, ps S, up S, un S, sc S, wt S)
def s_ps (S : Sm) (k v : Nat) : Sm := (dm S, fu (ps S) k v, up S, un S, sc S, wt S)
def s_up (S : Sm) (k v : Nat) : Sm := (dm S, ps S, fu (up S) k v, un S, sc S, wt S)
def s_un (S : Sm) (k v : Nat) : Sm := (dm S, ps S, up S, fu (un S) k v, sc S, wt S)
def s_sc (S : Sm) (k v : Nat) : Sm := (dm S, ps S, up S, un S, fu (sc S) k v, wt S)
def s_wt (S : Sm) (v : Int32) : Sm := (dm S, ps S, up S, un S, sc S, v)
def s_lift (b : Bl) (h : Nat) (S : Sm) : Sm := it (fun k S => s_un S k (h + bs b k + 1)) (bm b) S
def s_pepper (b : Bl) (p : Nat) (S : Sm) : Sm := it (fun k S => if ps S k = p then s_up S k (1 - up S k) else S) (bm b) S
def s_wet (f : Nat → Nat) (S : Sm) : Sm := it (fun p S => s_dm S p (f (dm S p))) 12 S
def s_frost (d : Nat) : Nat := d - 2
def s_rain (d : Nat) : Nat := if 9 < d + 3 then 9 else d + 3
def s_ev (b : Bl) (h : Nat) (S : Sm) (e : Ev) : Sm := if e.2.1 = h then (if e.1 = 0 then s_lift b h S else if e.1 = 1 then s_pepper b e.2.2 S else if e.1 = 2 then s_wet s_frost S else s_wet s_rain S) else S
def s_evs (b : Bl) (h : Nat) (S : Sm) : Sm := (be b).foldl (s_ev b h) S
/-- the least member that k passes over -/
def s_over (b : Bl) (h : Nat) (S : Sm) (k : Nat) : Nat → Option Nat
  | 0 => none
  | n + 1 => match s_over b h S k n with
    | some i => some i
    | none => if ¬ n = k ∧ ps S n = ps S k ∧ ¬ h < un S n then some n else none
def s_pass (b : Bl) (h k : Nat) (S : Sm) : Sm := match s_over b h S k (bm b) with
  | none => S
  | some i => s_sc (s_up S i (1 - up S i)) k (sc S k + 1)
def s_less (S : Sm) (p : Nat) : Nat := if 0 < p then dm S (p - 1) + 1 else 0
def s_more (S : Sm) (p : Nat) : Nat := if p + 1 < 12 then dm S (p + 1) + 1 else 0
def s_step (b : Bl) (h k : Nat) (S : Sm) : Sm :=
  if dm S (ps S k) + 1 < (if s_less S (ps S k) < s_more S (ps S k) then s_more S (ps S k) else s_less S (ps S k)) then
    s_pass b h k (s_wt (s_ps S k (if s_less S (ps S k) < s_more S (ps S k) then ps S k + 1 else ps S k - 1)) (wt S ||| (1 <<< (nI k &&& 31))))
  else S
def s_many (so h : Nat) : Nat := if so = 0 then 2 else if so = 1 then 1 else if h % 2 = 0 then 1 else 0
def s_walk (b : Bl) (h k : Nat) (S : Sm) : Sm := if up S k = 1 ∧ ¬ h < un S k then it (fun _ => s_step b h k) (s_many (bs b k) h) S else S
def s_walks (b : Bl) (h : Nat) (S : Sm) : Sm := it (s_walk b h) (bm b) S
def s_heads (b : Bl) (S : Sm) (p : Nat) : Nat := it (fun k n => if ps S k = p then n + 1 else n) (bm b) 0
def s_dry (b : Bl) (S : Sm) : Sm := it (fun p S => s_dm S p (if 2 < s_heads b S p then dm S p - 1 else dm S p)) 12 S
def s_hour (b : Bl) (h : Nat) (S : Sm) : Sm := s_dry b (s_walks b h (s_evs b h S))
def s_init (b : Bl) : Sm := (bd b, bp b, bu b, fun _ => 0, fun _ => 0, 0)
def s_run (b : Bl) : Nat → Sm
  | 0 => s_init b
  | h + 1 => s_hour b h (s_run b h)
def s_ayes (b : Bl) (h : Nat) (S : Sm) : Nat := it (fun k n => if h < un S k then n else if up S k = 1 then n + 1 else n) (bm b) 0
def s_noes (b : Bl) (h : Nat) (S : Sm) : Nat := it (fun k n => if h < un S k then n else if up S k = 1 then n else n + 1) (bm b) 0
