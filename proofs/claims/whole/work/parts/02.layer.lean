abbrev xSt : Type := (Nat → Nat → Int32) × (Nat → Nat → Nat → Int32) × (Nat → Nat → Nat → Nat → Int32)
abbrev xAd : Type := Nat → Nat → Nat → Nat
def xI (σ : xSt) (o k : Nat) : Int32 := σ.1 o k
def xA (σ : xSt) (o k : Nat) : Nat → Int32 := σ.2.1 o k
def xB (σ : xSt) (o k r : Nat) : Nat → Int32 := σ.2.2 o k r
def xsI (σ : xSt) (o k : Nat) (v : Int32) : xSt := (fun o' k' => if o' = o ∧ k' = k then v else σ.1 o' k', σ.2.1, σ.2.2)
def xsA (σ : xSt) (o k : Nat) (f : Nat → Int32) : xSt := (σ.1, fun o' k' => if o' = o ∧ k' = k then f else σ.2.1 o' k', σ.2.2)
def xsB (σ : xSt) (o k r : Nat) (f : Nat → Int32) : xSt := (σ.1, σ.2.1, fun o' k' r' => if o' = o ∧ k' = k ∧ r' = r then f else σ.2.2 o' k' r')
def xuA (σ : xSt) (o k : Nat) (j : Nat) (v : Int32) : xSt := xsA σ o k (upd (xA σ o k) j v)
def xuB (σ : xSt) (o k r : Nat) (j : Nat) (v : Int32) : xSt := xsB σ o k r (upd (xB σ o k r) j v)
/-- a join: what comes behind, and the ways to it -/
def jn {α : Sort _} (k : α) (b : α → Prop) : Prop := b k
def x_lim : Nat := 1000
def x_cl (o : Nat) : Nat := [6, 5, 5, 1, 1, 2, 2, 4, 0, 3, 3, 3, 3, 7].getD o 9
def x_ar0 (_ : Nat) (k : Nat) : Option (Nat × Nat) := ([none, none] : List (Option (Nat × Nat))).getD k none
def x_ar1 (_ : Nat) (k : Nat) : Option (Nat × Nat) := ([some (0, 12), some (0, 8), some (0, 8), some (0, 8), none, some (0, 9), some (0, 9), some (0, 9), none] : List (Option (Nat × Nat))).getD k none
def x_ar2 (_ : Nat) (k : Nat) : Option (Nat × Nat) := ([some (0, 12), some (0, 12), some (0, 8), some (0, 8), some (0, 8), some (0, 8), some (1, 8), some (0, 8), none, none, some (2, 12), some (2, 12), some (2, 8), some (2, 8), some (2, 8), some (2, 8), some (0, 20), some (0, 20)] : List (Option (Nat × Nat))).getD k none
def x_ar3 (_ : Nat) (k : Nat) : Option (Nat × Nat) := ([some (0, 60), none, none] : List (Option (Nat × Nat))).getD k none
def x_ar4 (_ : Nat) (k : Nat) : Option (Nat × Nat) := ([some (0, 8), some (0, 8), some (0, 8), none] : List (Option (Nat × Nat))).getD k none
def x_ar5 (o : Nat) (k : Nat) : Option (Nat × Nat) := ([some (0, (if o = 1 then 12 else 31)), none] : List (Option (Nat × Nat))).getD k none
def x_ar6 (_ : Nat) (k : Nat) : Option (Nat × Nat) := ([none, none, none, none, none, none, none, none, some (3, 4), some (2, 10), some (0, 10), none, none, none, none, none] : List (Option (Nat × Nat))).getD k none
def x_ar7 (_ : Nat) (k : Nat) : Option (Nat × Nat) := ([some (0, 2), some (0, 62), none, some (0, 12), none, some (0, 9), some (0, 9), some (0, 9), none, some (0, 9), some (0, 9), some (0, 9), none, some (0, 9), some (0, 9), some (0, 9), none, some (0, 12), some (0, 8), some (0, 8), some (0, 8), some (0, 8), none, some (0, 240), some (0, 160), some (0, 160), some (0, 160), some (0, 20), some (0, 20), some (0, 20), some (0, 2), none, some (0, 8), some (0, 8), some (0, 8), some (0, 200), some (1, 4), some (0, 4), some (0, 4), some (0, 240), some (0, 60), none] : List (Option (Nat × Nat))).getD k none
def x_ar (c o k : Nat) : Option (Nat × Nat) := match c with
  | 0 => x_ar0 o k
  | 1 => x_ar1 o k
  | 2 => x_ar2 o k
  | 3 => x_ar3 o k
  | 4 => x_ar4 o k
  | 5 => x_ar5 o k
  | 6 => x_ar6 o k
  | 7 => x_ar7 o k
  | _ => none
def x_fl (ad : xAd) (σ : xSt) (c o : Nat) : List Value := match c with
  | 0 => [.int (xI σ o 0), .int (xI σ o 1)]
  | 1 => [.ref (ad o 1 0), .ref (ad o 2 0), .ref (ad o 3 0), .ref (ad o 4 0), .int (xI σ o 4), .ref (ad o 6 0), .ref (ad o 7 0), .ref (ad o 8 0), .int (xI σ o 8)]
  | 2 => [.ref (ad o 1 0), .ref (ad o 2 0), .ref (ad o 3 0), .ref (ad o 4 0), .ref (ad o 5 0), .ref (ad o 6 0), .ref (ad o 7 0), .ref (ad o 8 0), .int (xI σ o 8), .int (xI σ o 9), .ref (ad o 11 0), .ref (ad o 12 0), .ref (ad o 13 0), .ref (ad o 14 0), .ref (ad o 15 0), .ref (ad o 16 0), .ref (ad o 17 0), .ref (ad o 18 0)]
  | 3 => [.ref (ad o 1 0), .int (xI σ o 1), .int (xI σ o 2)]
  | 4 => [.ref (ad o 1 0), .ref (ad o 2 0), .ref (ad o 3 0), .int (xI σ o 3)]
  | 5 => [.ref (ad o 1 0), .int (xI σ o 1)]
  | 6 => [.ref (ad 1 0 0), .ref (ad 2 0 0), .ref (ad 3 0 0), .ref (ad 4 0 0), .ref (ad 5 0 0), .ref (ad 6 0 0), .ref (ad 7 0 0), .ref (ad 8 0 0), .ref (ad o 9 0), .ref (ad o 10 0), .ref (ad o 11 0), .int (xI σ o 11), .int (xI σ o 12), .int (xI σ o 13), .int (xI σ o 14), .int (xI σ o 15)]
  | 7 => [.ref (ad o 1 0), .ref (ad o 2 0), .int (xI σ o 2), .ref (ad o 4 0), .int (xI σ o 4), .ref (ad o 6 0), .ref (ad o 7 0), .ref (ad o 8 0), .int (xI σ o 8), .ref (ad o 10 0), .ref (ad o 11 0), .ref (ad o 12 0), .int (xI σ o 12), .ref (ad o 14 0), .ref (ad o 15 0), .ref (ad o 16 0), .int (xI σ o 16), .ref (ad o 18 0), .ref (ad o 19 0), .ref (ad o 20 0), .ref (ad o 21 0), .ref (ad o 22 0), .int (xI σ o 22), .ref (ad o 24 0), .ref (ad o 25 0), .ref (ad o 26 0), .ref (ad o 27 0), .ref (ad o 28 0), .ref (ad o 29 0), .ref (ad o 30 0), .ref (ad o 31 0), .int (xI σ o 31), .ref (ad o 33 0), .ref (ad o 34 0), .ref (ad o 35 0), .ref (ad o 36 0), .ref (ad o 37 0), .ref (ad o 38 0), .ref (ad o 39 0), .ref (ad o 40 0), .ref (ad o 41 0), .int (xI σ o 41)]
  | _ => []
abbrev x_cls : List vw_C := [(RX0, TX0, 2), (RX1, TX1, 9), (RX2, TX2, 18), (RX3, TX3, 3), (RX4, TX4, 4), (RX5, TX5, 2), (RX6, TX6, 16), (RX7, TX7, 42)]
abbrev xG : Type := va_G × (ClassId × ClassId × ClassId × ClassId)
abbrev x_tys (G : xG) : List (ClassId × FieldType) := [(G.2.1, .int), (G.2.2.1, .boolean), (G.2.2.2.1, .object "WoodliceSenate$Sheet"), (G.2.2.2.2, .array .int)]
def x_q (ad : xAd) (o k : Nat) : Nat → Option Nat := fun j => if j < 20 then some (ad o (k + 1) (j + 1)) else none
def x_sh (ad : xAd) : Nat → Option Nat := fun j => if j < 4 then some (ad (9 + j) 0 0) else none
def x_ent (ad : xAd) (G : xG) (σ : xSt) (o f r : Nat) : Option va_E := match f, r with
  | 0, 0 => if x_cl o < 8 then some (.inr (x_cl o, x_fl ad σ (x_cl o) o)) else none
  | 0, _ + 1 => none
  | k + 1, 0 => match x_ar (x_cl o) o k with
    | some (0, n) => some (.inl (G.2.1, n, .inl (xA σ o k)))
    | some (1, n) => some (.inl (G.2.2.1, n, .inl (xA σ o k)))
    | some (2, _) => some (.inl (G.2.2.2.2, 20, .inr (.inr (.inr (.inr (x_q ad o k))))))
    | some (_, _) => some (.inl (G.2.2.2.1, 4, .inr (.inr (.inr (.inr (x_sh ad))))))
    | none => none
  | k + 1, r + 1 => match x_ar (x_cl o) o k with
    | some (2, n) => if r < 20 then some (.inl (G.2.1, n, .inl (xB σ o k r))) else none
    | _ => none
def x_dom (o f r : Nat) : Bool := match f, r with
  | 0, 0 => decide (x_cl o < 8)
  | 0, _ + 1 => false
  | k + 1, 0 => (x_ar (x_cl o) o k).isSome
  | k + 1, r + 1 => match x_ar (x_cl o) o k with
    | some (2, _) => decide (r < 20)
    | _ => false
theorem x_ent_dom {ad : xAd} {G : xG} {σ : xSt} {o f r : Nat} {e : va_E} (h : x_ent ad G σ o f r = some e) : x_dom o f r = true := by
  unfold x_ent at h
  unfold x_dom
  split at h
  · split at h
    · simpa using ‹x_cl o < 8›
    · cases h
  · cases h
  · show (x_ar (x_cl o) o _).isSome = true
    split at h <;> simp_all
  · split at h
    · split at h
      · simp_all
      · cases h
    · cases h
theorem x_ent_o {ad : xAd} {G : xG} {σ : xSt} {o c : Nat} (h : x_cl o = c) (h8 : c < 8) : x_ent ad G σ o 0 0 = some (.inr (c, x_fl ad σ c o)) := by
  subst h
  show (if _ then _ else _) = _
  rw [if_pos h8]
theorem x_ent_a {ad : xAd} {G : xG} {σ : xSt} {o k n : Nat} (h : x_ar (x_cl o) o k = some (0, n)) : x_ent ad G σ o (k + 1) 0 = some (.inl (G.2.1, n, .inl (xA σ o k))) := by
  simp only [x_ent, h]
theorem x_ent_z {ad : xAd} {G : xG} {σ : xSt} {o k n : Nat} (h : x_ar (x_cl o) o k = some (1, n)) : x_ent ad G σ o (k + 1) 0 = some (.inl (G.2.2.1, n, .inl (xA σ o k))) := by
  simp only [x_ent, h]
theorem x_ent_g {ad : xAd} {G : xG} {σ : xSt} {o k n : Nat} (h : x_ar (x_cl o) o k = some (2, n)) : x_ent ad G σ o (k + 1) 0 = some (.inl (G.2.2.2.2, 20, .inr (.inr (.inr (.inr (x_q ad o k)))))) := by
  simp only [x_ent, h]
theorem x_ent_q {ad : xAd} {G : xG} {σ : xSt} {o k n : Nat} (h : x_ar (x_cl o) o k = some (3, n)) : x_ent ad G σ o (k + 1) 0 = some (.inl (G.2.2.2.1, 4, .inr (.inr (.inr (.inr (x_sh ad)))))) := by
  simp only [x_ent, h]
theorem x_ent_r {ad : xAd} {G : xG} {σ : xSt} {o k n r : Nat} (h : x_ar (x_cl o) o k = some (2, n)) (hr : r < 20) : x_ent ad G σ o (k + 1) (r + 1) = some (.inl (G.2.1, n, .inl (xB σ o k r))) := by
  simp only [x_ent, h, if_pos hr]
theorem x_fl_ne {ad : xAd} {σ : xSt} {o o' k : Nat} {v : Int32} (c : Nat) (h : ¬ o' = o) : x_fl ad (xsI σ o k v) c o' = x_fl ad σ c o' := by
  unfold x_fl
  split <;> simp [xI, xsI, h]
theorem x_ent_setI {ad : xAd} {G : xG} {σ : xSt} {o k o' f r : Nat} {v : Int32} (h : ¬ (o' = o ∧ f = 0 ∧ r = 0)) : x_ent ad G (xsI σ o k v) o' f r = x_ent ad G σ o' f r := by
  cases f with
  | zero =>
    cases r with
    | zero =>
      have h1 : ¬ o' = o := fun e => h ⟨e, rfl, rfl⟩
      simp only [x_ent, x_fl_ne _ h1]
    | succ r => rfl
  | succ f =>
    cases r <;> rfl
theorem x_ent_setA {ad : xAd} {G : xG} {σ : xSt} {o k o' f r : Nat} {g : Nat → Int32} (h : ¬ (o' = o ∧ f = k + 1 ∧ r = 0)) : x_ent ad G (xsA σ o k g) o' f r = x_ent ad G σ o' f r := by
  cases f with
  | zero => cases r <;> rfl
  | succ f =>
    cases r with
    | zero =>
      have h1 : ¬ (o' = o ∧ f = k) := fun e => h ⟨e.1, by rw [e.2], rfl⟩
      have h2 : xA (xsA σ o k g) o' f = xA σ o' f := by
        show (if _ then _ else _) = _
        rw [if_neg h1]; rfl
      simp only [x_ent, h2]
    | succ r => rfl
theorem x_ent_setB {ad : xAd} {G : xG} {σ : xSt} {o k q o' f r : Nat} {g : Nat → Int32} (h : ¬ (o' = o ∧ f = k + 1 ∧ r = q + 1)) : x_ent ad G (xsB σ o k q g) o' f r = x_ent ad G σ o' f r := by
  cases f with
  | zero => cases r <;> rfl
  | succ f =>
    cases r with
    | zero => rfl
    | succ r =>
      have h1 : ¬ (o' = o ∧ f = k ∧ r = q) := fun e => h ⟨e.1, by rw [e.2.1], by rw [e.2.2]⟩
      have h2 : xB (xsB σ o k q g) o' f r = xB σ o' f r := by
        show (if _ then _ else _) = _
        rw [if_neg h1]; rfl
      simp only [x_ent, h2]
/-- the world -/
def xP (ad : xAd) (G : xG) (σ : xSt) (H : Heap) : Prop := ∀ (o f r : Nat) (e : va_E), x_ent ad G σ o f r = some e → va_at G.1 x_cls (ad o f r, e) H
def xJ (ad : xAd) : Prop := ∀ o f r o' f' r' : Nat, x_dom o f r = true → x_dom o' f' r' = true → ad o f r = ad o' f' r' → o = o' ∧ f = f' ∧ r = r'
def xW (ad : xAd) : Nat → Prop := fun q => ∃ o f r : Nat, x_dom o f r = true ∧ q = ad o f r
theorem xP.one {ad : xAd} {G : xG} {σ : xSt} {H : Heap} (h : xP ad G σ H) {o f r : Nat} {e : va_E} (he : x_ent ad G σ o f r = some e) : va_P G.1 x_cls [(ad o f r, e)] H := by
  intro k q hk
  cases k with
  | zero => cases hk; exact h o f r e he
  | succ k => simp at hk
theorem xP.set {ad : xAd} {G : xG} {σ σ' : xSt} {H H1 : Heap} {o f r : Nat} {e : va_E} (h : xP ad G σ H) (hJ : xJ ad) (hd : x_dom o f r = true) (he : x_ent ad G σ' o f r = some e) (ho : ∀ o' f' r' : Nat, ¬ (o' = o ∧ f' = f ∧ r' = r) → x_ent ad G σ' o' f' r' = x_ent ad G σ o' f' r')
    (ha : va_at G.1 x_cls (ad o f r, e) H1) (oq : ∀ q : Nat, q ≠ ad o f r → H1[q]? = H[q]?) : xP ad G σ' H1 := by
  intro o' f' r' e' h'
  by_cases hk : o' = o ∧ f' = f ∧ r' = r
  · obtain ⟨rfl, rfl, rfl⟩ := hk
    rw [he] at h'
    cases h'
    exact ha
  · have h0 := h'
    rw [ho o' f' r' hk] at h0
    exact (h o' f' r' e' h0).kept (oq _ (fun q => hk (hJ _ _ _ _ _ _ (x_ent_dom h0) hd q)))
-- the words on nest mates
def x_nf : List (String × Nat × String × String × String × String) := [(RX2, 87, "WoodliceSenate$Bill", "damp", "[I", "WoodliceSenate"), (RX2, 107, "WoodliceSenate$Bill", "sorts", "[I", "WoodliceSenate"), (RX2, 108, "WoodliceSenate$Bill", "places", "[I", "WoodliceSenate"), (RX2, 109, "WoodliceSenate$Bill", "uprights", "[I", "WoodliceSenate"), (RX2, 90, "WoodliceSenate$Bill", "members", "I", "WoodliceSenate"), (RX6, 184, "WoodliceSenate$Bill", "members", "I", "WoodliceSenate"), (RX2, 113, "WoodliceSenate$Bill", "kinds", "[I", "WoodliceSenate"), (RX2, 116, "WoodliceSenate$Bill", "hours", "[I", "WoodliceSenate"), (RX2, 122, "WoodliceSenate$Bill", "spots", "[I", "WoodliceSenate"), (RX2, 110, "WoodliceSenate$Bill", "events", "I", "WoodliceSenate"), (RX6, 124, "WoodliceSenate$Bill", "events", "I", "WoodliceSenate"), (RX6, 232, "WoodliceSenate$Sightings", "size", "I", "WoodliceSenate"), (RX6, 194, "WoodliceSenate$Best", "which", "I", "WoodliceSenate"), (RX6, 191, "WoodliceSenate$Best", "value", "I", "WoodliceSenate"), (RX6, 280, "WoodliceSenate$Sheet", "form", "I", "WoodliceSenate"), (RX6, 146, "WoodliceSenate$Sheet", "size", "I", "WoodliceSenate")]
def x_nm : List (String × Nat × MethodName × String) := [(RX6, 23, yX1_init, "WoodliceSenate"), (RX6, 33, yX2_init, "WoodliceSenate"), (RX6, 43, yX4_init, "WoodliceSenate"), (RX6, 50, yX0_init, "WoodliceSenate"), (RX6, 74, yX3_init, "WoodliceSenate"), (RX1, 57, yX6_isPlace, "WoodliceSenate"), (RX2, 141, yX6_isPlace, "WoodliceSenate"), (RX2, 144, yX6_isHour, "WoodliceSenate")]
abbrev x_nfw (q : String × Nat × String × String × String × String) : Cond := .fieldLinkNest q.1 q.2.1 q.2.2.1 q.2.2.2.1 q.2.2.2.2.1 q.2.2.2.2.2
abbrev x_nmw (q : String × Nat × MethodName × String) : Cond := .methodLinkNest q.1 q.2.1 q.2.2.1 q.2.2.2
def x_dh (j : Nat) : Value := .int (if j = 0 then 0 else if j = 1 then 7 else 19)
/-- what holds of the machine's tables at every call -/
def xV (G : xG) (A : Nat → Prop) (U : State) (H : Heap) : Prop := va_K G.1 x_cls (x_tys G) U ∧ (∀ q ∈ x_nf, va_Nw (x_nfw q) U) ∧ (∀ q ∈ x_nm, va_Nw (x_nmw q) U) ∧ ∃ t : Nat, va_Z "WoodliceSenate" "DIGEST_HOURS" "[I" (.ref t) A U H ∧ va_T .int t 3 x_dh A U H
theorem xV.kept {G : xG} {A : Nat → Prop} {U : State} {H H1 : Heap} (h : xV G A U H) (hq : ∀ a : Nat, a < H.size → ¬ A a → H1[a]? = H[a]?) : xV G A U H1 := by
  obtain ⟨h1, h2, h3, t, h4, h5⟩ := h
  exact ⟨h1, h2, h3, t, h4.kept hq, h5.kept hq⟩
theorem xV.narrow {G : xG} {A B : Nat → Prop} {U : State} {H : Heap} (h : xV G A U H) (hAB : ∀ q, B q → A q) : xV G B U H := by
  obtain ⟨h1, h2, h3, t, h4, h5⟩ := h
  exact ⟨h1, h2, h3, t, h4.narrow hAB, h5.narrow hAB⟩
theorem xV.warm {G : xG} {A : Nat → Prop} {s U : State} {H : Heap} (hW : s.WarmedH U.vm) (h : xV G A s H) : xV G A U H := by
  obtain ⟨h1, h2, h3, t, h4, h5⟩ := h
  exact ⟨va_K.moved hW.alike h1, fun q hq => va_Nw.warmF hW (h2 q hq), fun q hq => va_Nw.warmM hW (h3 q hq), t, va_Z.moved hW.alike h4, va_T.moved hW.alike h5⟩
theorem xV.same {G : xG} {A : Nat → Prop} {s U : State} {H : Heap} (hv : s.vm = U.vm) (h : xV G A s H) : xV G A U H := by
  obtain ⟨h1, h2, h3, t, h4, h5⟩ := h
  have ha : s.vm.Alike U.vm := by rw [hv]; exact Vm.Alike.refl _
  exact ⟨va_K.moved ha h1, fun q hq => va_Nw.same rfl hv (h2 q hq), fun q hq => va_Nw.same rfl hv (h3 q hq), t, va_Z.moved ha h4, va_T.moved ha h5⟩
abbrev xE : Type := Program × Launch × Env × Room × State × MethodId × Array Value × List Frame × Method × Code × (((Option Value → xSt → Prop) → State → Prop) × (Nat → Prop) × Nat × Nat) × xG
abbrev eL (E : xE) : Launch := E.2.1
abbrev eG (E : xE) : xG := E.2.2.2.2.2.2.2.2.2.2.2
/-- the law's own walk has no answer of a method: its tag -/
abbrev x_tag : Option FieldType := some (.array .int)
def xQ (ad : xAd) (G : xG) (Q : Option Value → xSt → Prop) : Array Value → State → Outcome → State → Prop := fun _ st oc t => (∃ (v : Option Value) (σ : xSt), oc = .returned v ∧ Q v σ ∧ xP ad G σ t.heap) ∧ va_F (xW ad) st t
def KK (ad : xAd) (E : xE) (Q : Option Value → xSt → Prop) (pc : Nat) (L : List (Nat × Value)) (st : List Value) (σ : xSt) : Prop := match E with
  | (p, l, e, R, s, m, args, below, meth, c, (Z, A, k, n), G) => ∀ (H : Heap) (locs : List Loc) (ls : Array Slot), lv_has ls c.maxLocals L → xP ad G σ H → va_S A s.heap H locs → W p l e R s m args below meth c H locs k n (Z Q) (F0 m pc ls st)
def FX (ad : xAd) (E : xE) (cc : ByteArray) (nL : Nat) (own : String) (ret : Option FieldType) (fr lo : Nat) : Prop := match E with
  | (p, _, _, R, s, m, args, below, meth, c, (Z, A, k, n), G) => p.tables.exec = Jvm.exec ∧ c.code = cc ∧ c.maxLocals = nL ∧ s.vm.findClass own = some m.cls ∧ (∀ w ∈ x_big, w.before args s = true) ∧ xV G A s s.heap ∧ xJ ad ∧ (ret ≠ x_tag → meth.sig.returnType = ret ∧ k = 0 ∧ n = 0 ∧ A = xW ad ∧ Z = fun Q => MQ below (xQ ad G Q) args s 0 0 (xW ad)) ∧ meth.locks = false ∧ fr ≤ R.frames ∧ lo ≤ R.locals ∧ (∀ q, xW ad q → A q) ∧ k ≤ R.cells ∧ n ≤ R.slots
def xPc (ad : xAd) (G : xG) (av : List Value) (σ : xSt) : Array Value → State → Prop := va_Pc av (fun U => xP ad G σ U.heap ∧ xV G (xW ad) U U.heap ∧ xJ ad)
def MC (ad : xAd) (G : xG) (l : Launch) (y : MethodName) (cc : ByteArray) (nL : Nat) (ret : Option FieldType) (fr lo : Nat) (av : List Value) (σ : xSt) (Q : Option Value → xSt → Prop) : Prop :=
  Met l y (.code y cc nL ret :: x_big) { frames := fr, cells := 0, slots := 0, locals := lo } (xPc ad G av σ) (xQ ad G Q) 0 0 (xW ad)
theorem x_MC {ad : xAd} {G : xG} {l : Launch} {y : MethodName} {cc : ByteArray} {nL : Nat} {ret : Option FieldType} {fr lo : Nat} {av : List Value} {σ : xSt} {Q : Option Value → xSt → Prop} (L0 : List (Nat × Value)) (hy : plainName y.cls = true) (hL : lv_args 0 av = L0) (hn : (lg_sl av).length ≤ nL)
    (body : ∀ E : xE, eG E = G → eL E = l → FX ad E cc nL y.cls ret fr lo → KK ad E Q 0 L0 [] σ) : MC ad G l y cc nL ret fr lo av σ Q := by
  refine Met.ofW (cc := cc) (maxL := nL) (ret := ret) hy rfl ?_
  intro p e s m args below meth c s₁ B hml hv
  obtain ⟨rfl, hP, hV, hJ⟩ := hv
  have hts := atoms_spec (ws := .code y cc nL ret :: x_big) B.pre
  have hown : s.vm.findClass y.cls = some m.cls := findClass_of_methodNamed B.named
  have X : FX ad (p, l, e, (headSpec (.code y cc nL ret :: x_big) { frames := fr, cells := 0, slots := 0, locals := lo }).room, s, m, av.toArray, below, meth, c, (fun Q => MQ below (xQ ad G Q) av.toArray s 0 0 (xW ad), xW ad, 0, 0), G) cc nL y.cls ret fr lo :=
    ⟨B.exec, B.bytes, hml, hown, fun w h => hts w (List.mem_cons_of_mem _ h), hV, hJ, fun _ => ⟨B.returns, rfl, rfl, rfl, rfl⟩, B.notSynchronized, Nat.le_refl _, Nat.le_refl _, fun _ q => q, Nat.zero_le _, Nat.zero_le _⟩
  have hl := lv_entry av (n := nL) hn
  rw [hL] at hl
  rw [lg_entry_eq]
  exact body _ rfl rfl X s.heap [] _ (by rw [hml]; exact hl) hP va_S.rf
