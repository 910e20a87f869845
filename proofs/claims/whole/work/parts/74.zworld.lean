-- the small world of readStone, as the constructor calls it (printed by wip/whole/gen/g06.py)
def z_cl (o : Nat) : Nat := [6, 5, 9, 1].getD o 9
def z_ar (c o k : Nat) : Option (Nat × Nat) := match c with
  | 0 => x_ar0 o k
  | 1 => x_ar1 o k
  | 2 => x_ar2 o k
  | 3 => x_ar3 o k
  | 4 => x_ar4 o k
  | 5 => x_ar5 o k
  | _ => none
def z_ent (ad : xAd) (G : xG) (σ : xSt) (o f r : Nat) : Option va_E := match f, r with
  | 0, 0 => if z_cl o < 8 then some (.inr (z_cl o, x_fl ad σ (z_cl o) o)) else none
  | 0, _ + 1 => none
  | k + 1, 0 => match z_ar (z_cl o) o k with
    | some (0, n) => some (.inl (G.2.1, n, .inl (xA σ o k)))
    | some (1, n) => some (.inl (G.2.2.1, n, .inl (xA σ o k)))
    | some (2, _) => some (.inl (G.2.2.2.2, 20, .inr (.inr (.inr (.inr (x_q ad o k))))))
    | some (_, _) => some (.inl (G.2.2.2.1, 4, .inr (.inr (.inr (.inr (x_sh ad))))))
    | none => none
  | k + 1, r + 1 => match z_ar (z_cl o) o k with
    | some (2, n) => if r < 20 then some (.inl (G.2.1, n, .inl (xB σ o k r))) else none
    | _ => none
def z_dom (o f r : Nat) : Bool := match f, r with
  | 0, 0 => decide (z_cl o < 8)
  | 0, _ + 1 => false
  | k + 1, 0 => (z_ar (z_cl o) o k).isSome
  | k + 1, r + 1 => match z_ar (z_cl o) o k with
    | some (2, _) => decide (r < 20)
    | _ => false
set_option maxHeartbeats 4000000 in
theorem z_ent_dom {ad : xAd} {G : xG} {σ : xSt} {o f r : Nat} {e : va_E} (h : z_ent ad G σ o f r = some e) : z_dom o f r = true := by
  unfold z_ent at h
  unfold z_dom
  split at h
  · split at h
    · simpa using ‹z_cl o < 8›
    · cases h
  · cases h
  · show (z_ar (z_cl o) o _).isSome = true
    split at h <;> simp_all
  · split at h
    · split at h
      · simp_all
      · cases h
    · cases h
set_option maxHeartbeats 4000000 in
theorem z_ent_o {ad : xAd} {G : xG} {σ : xSt} {o c : Nat} (h : z_cl o = c) (h8 : c < 8) : z_ent ad G σ o 0 0 = some (.inr (c, x_fl ad σ c o)) := by
  subst h
  show (if _ then _ else _) = _
  rw [if_pos h8]
set_option maxHeartbeats 4000000 in
theorem z_ent_a {ad : xAd} {G : xG} {σ : xSt} {o k n : Nat} (h : z_ar (z_cl o) o k = some (0, n)) : z_ent ad G σ o (k + 1) 0 = some (.inl (G.2.1, n, .inl (xA σ o k))) := by
  simp only [z_ent, h]
set_option maxHeartbeats 4000000 in
theorem z_ent_setA {ad : xAd} {G : xG} {σ : xSt} {o k o' f r : Nat} {g : Nat → Int32} (h : ¬ (o' = o ∧ f = k + 1 ∧ r = 0)) : z_ent ad G (xsA σ o k g) o' f r = z_ent ad G σ o' f r := by
  cases f with
  | zero => cases r <;> rfl
  | succ f =>
    cases r with
    | zero =>
      have h1 : ¬ (o' = o ∧ f = k) := fun e => h ⟨e.1, by rw [e.2], rfl⟩
      have h2 : xA (xsA σ o k g) o' f = xA σ o' f := by
        show (if _ then _ else _) = _
        rw [if_neg h1]; rfl
      simp only [z_ent, h2]
    | succ r => rfl
/-- the world -/
def zxP (ad : xAd) (G : xG) (σ : xSt) (H : Heap) : Prop := ∀ (o f r : Nat) (e : va_E), z_ent ad G σ o f r = some e → va_at G.1 x_cls (ad o f r, e) H
def zxJ (ad : xAd) : Prop := ∀ o f r o' f' r' : Nat, z_dom o f r = true → z_dom o' f' r' = true → ad o f r = ad o' f' r' → o = o' ∧ f = f' ∧ r = r'
def zxW (ad : xAd) : Nat → Prop := fun q => ∃ o f r : Nat, z_dom o f r = true ∧ q = ad o f r
set_option maxHeartbeats 4000000 in
theorem zxP.one {ad : xAd} {G : xG} {σ : xSt} {H : Heap} (h : zxP ad G σ H) {o f r : Nat} {e : va_E} (he : z_ent ad G σ o f r = some e) : va_P G.1 x_cls [(ad o f r, e)] H := by
  intro k q hk
  cases k with
  | zero => cases hk; exact h o f r e he
  | succ k => simp at hk
set_option maxHeartbeats 4000000 in
theorem zxP.set {ad : xAd} {G : xG} {σ σ' : xSt} {H H1 : Heap} {o f r : Nat} {e : va_E} (h : zxP ad G σ H) (hJ : zxJ ad) (hd : z_dom o f r = true) (he : z_ent ad G σ' o f r = some e) (ho : ∀ o' f' r' : Nat, ¬ (o' = o ∧ f' = f ∧ r' = r) → z_ent ad G σ' o' f' r' = z_ent ad G σ o' f' r')
    (ha : va_at G.1 x_cls (ad o f r, e) H1) (oq : ∀ q : Nat, q ≠ ad o f r → H1[q]? = H[q]?) : zxP ad G σ' H1 := by
  intro o' f' r' e' h'
  by_cases hk : o' = o ∧ f' = f ∧ r' = r
  · obtain ⟨rfl, rfl, rfl⟩ := hk
    rw [he] at h'
    cases h'
    exact ha
  · have h0 := h'
    rw [ho o' f' r' hk] at h0
    exact (h o' f' r' e' h0).kept (oq _ (fun q => hk (hJ _ _ _ _ _ _ (z_ent_dom h0) hd q)))
-- the words on nest mates
def zxQ (ad : xAd) (G : xG) (Q : Option Value → xSt → Prop) : Array Value → State → Outcome → State → Prop := fun _ st oc t => (∃ (v : Option Value) (σ : xSt), oc = .returned v ∧ Q v σ ∧ zxP ad G σ t.heap) ∧ va_F (zxW ad) st t
def zKK (ad : xAd) (E : xE) (Q : Option Value → xSt → Prop) (pc : Nat) (L : List (Nat × Value)) (st : List Value) (σ : xSt) : Prop := match E with
  | (p, l, e, R, s, m, args, below, meth, c, (Z, A, k, n), G) => ∀ (H : Heap) (locs : List Loc) (ls : Array Slot), lv_has ls c.maxLocals L → zxP ad G σ H → va_S A s.heap H locs → W p l e R s m args below meth c H locs k n (Z Q) (F0 m pc ls st)
def zFX (ad : xAd) (E : xE) (cc : ByteArray) (nL : Nat) (own : String) (ret : Option FieldType) (fr lo : Nat) : Prop := match E with
  | (p, _, _, R, s, m, args, below, meth, c, (Z, A, k, n), G) => p.tables.exec = Jvm.exec ∧ c.code = cc ∧ c.maxLocals = nL ∧ s.vm.findClass own = some m.cls ∧ (∀ w ∈ x_big, w.before args s = true) ∧ xV G A s s.heap ∧ zxJ ad ∧ (ret ≠ x_tag → meth.sig.returnType = ret ∧ k = 0 ∧ n = 0 ∧ A = zxW ad ∧ Z = fun Q => MQ below (zxQ ad G Q) args s 0 0 (zxW ad)) ∧ meth.locks = false ∧ fr ≤ R.frames ∧ lo ≤ R.locals ∧ (∀ q, zxW ad q → A q) ∧ k ≤ R.cells ∧ n ≤ R.slots
def zxPc (ad : xAd) (G : xG) (av : List Value) (σ : xSt) : Array Value → State → Prop := va_Pc av (fun U => zxP ad G σ U.heap ∧ xV G (zxW ad) U U.heap ∧ zxJ ad)
def zMC (ad : xAd) (G : xG) (l : Launch) (y : MethodName) (cc : ByteArray) (nL : Nat) (ret : Option FieldType) (fr lo : Nat) (av : List Value) (σ : xSt) (Q : Option Value → xSt → Prop) : Prop :=
  Met l y (.code y cc nL ret :: x_big) { frames := fr, cells := 0, slots := 0, locals := lo } (zxPc ad G av σ) (zxQ ad G Q) 0 0 (zxW ad)
set_option maxHeartbeats 4000000 in
theorem z_MC {ad : xAd} {G : xG} {l : Launch} {y : MethodName} {cc : ByteArray} {nL : Nat} {ret : Option FieldType} {fr lo : Nat} {av : List Value} {σ : xSt} {Q : Option Value → xSt → Prop} (L0 : List (Nat × Value)) (hy : plainName y.cls = true) (hL : lv_args 0 av = L0) (hn : (lg_sl av).length ≤ nL)
    (body : ∀ E : xE, eG E = G → eL E = l → zFX ad E cc nL y.cls ret fr lo → zKK ad E Q 0 L0 [] σ) : zMC ad G l y cc nL ret fr lo av σ Q := by
  refine Met.ofW (cc := cc) (maxL := nL) (ret := ret) hy rfl ?_
  intro p e s m args below meth c s₁ B hml hv
  obtain ⟨rfl, hP, hV, hJ⟩ := hv
  have hts := atoms_spec (ws := .code y cc nL ret :: x_big) B.pre
  have hown : s.vm.findClass y.cls = some m.cls := findClass_of_methodNamed B.named
  have X : zFX ad (p, l, e, (headSpec (.code y cc nL ret :: x_big) { frames := fr, cells := 0, slots := 0, locals := lo }).room, s, m, av.toArray, below, meth, c, (fun Q => MQ below (zxQ ad G Q) av.toArray s 0 0 (zxW ad), zxW ad, 0, 0), G) cc nL y.cls ret fr lo :=
    ⟨B.exec, B.bytes, hml, hown, fun w h => hts w (List.mem_cons_of_mem _ h), hV, hJ, fun _ => ⟨B.returns, rfl, rfl, rfl, rfl⟩, B.notSynchronized, Nat.le_refl _, Nat.le_refl _, fun _ q => q, Nat.zero_le _, Nat.zero_le _⟩
  have hl := lv_entry av (n := nL) hn
  rw [hL] at hl
  rw [lg_entry_eq]
  exact body _ rfl rfl X s.heap [] _ (by rw [hml]; exact hl) hP va_S.rf

section zXR
variable {ad : xAd} {E : xE} {Q : Option Value → xSt → Prop} {cc : ByteArray} {nL fr lo : Nat} {own : String} {ret : Option FieldType} {pc : Nat} {L : List (Nat × Value)} {st : List Value} {σ : xSt}
set_option maxHeartbeats 4000000 in
theorem zr_iconst (X : zFX ad E cc nL own ret fr lo) {n : Int} {v : Int32} (hd : decode cc pc = .ok (.iconst n, 1)) (hv : Int32.ofInt n = v) (kk : zKK ad E Q (pc + 1) L (.int v :: st) σ) : zKK ad E Q (pc) L (st) σ := by
  obtain ⟨p, l, e, R, s, m, args, below, meth, c9, ⟨Z, A, k9, n9⟩, G⟩ := E
  intro H locs ls h1 h2 h3
  exact lv_iconst X.1 X.2.1 hd hv (kk H locs ls h1 h2 h3)
set_option maxHeartbeats 4000000 in
theorem zr_bipush (X : zFX ad E cc nL own ret fr lo) {n : Int} {v : Int32} (hd : decode cc pc = .ok (.bipush n, 2)) (hv : (Int8.ofInt n).toInt32 = v) (kk : zKK ad E Q (pc + 2) L (.int v :: st) σ) : zKK ad E Q (pc) L (st) σ := by
  obtain ⟨p, l, e, R, s, m, args, below, meth, c9, ⟨Z, A, k9, n9⟩, G⟩ := E
  intro H locs ls h1 h2 h3
  exact lv_bipush X.1 X.2.1 hd hv (kk H locs ls h1 h2 h3)
set_option maxHeartbeats 4000000 in
theorem zr_iload_n (X : zFX ad E cc nL own ret fr lo) {k : Fin 4} {i : Nat} {x : Int32} (hd : decode cc pc = .ok (.iload_n k, 1)) (q : Nat) (hi : (k : Nat) = i) (hl : L[q]? = some (i, .int x)) (kk : zKK ad E Q (pc + 1) L (.int x :: st) σ) : zKK ad E Q (pc) L (st) σ := by
  obtain ⟨p, l, e, R, s, m, args, below, meth, c9, ⟨Z, A, k9, n9⟩, G⟩ := E
  intro H locs ls h1 h2 h3
  exact lv_iload_n X.1 X.2.1 hd hi (lv_at h1 q hl) (kk H locs ls h1 h2 h3)
set_option maxHeartbeats 4000000 in
theorem zr_aload_n (X : zFX ad E cc nL own ret fr lo) {k : Fin 4} {i : Nat} {x : Nat} (hd : decode cc pc = .ok (.aload_n k, 1)) (q : Nat) (hi : (k : Nat) = i) (hl : L[q]? = some (i, .ref x)) (kk : zKK ad E Q (pc + 1) L (.ref x :: st) σ) : zKK ad E Q (pc) L (st) σ := by
  obtain ⟨p, l, e, R, s, m, args, below, meth, c9, ⟨Z, A, k9, n9⟩, G⟩ := E
  intro H locs ls h1 h2 h3
  exact lv_aload_n X.1 X.2.1 hd hi (lv_at h1 q hl) (kk H locs ls h1 h2 h3)
set_option maxHeartbeats 4000000 in
theorem zr_istore_n (X : zFX ad E cc nL own ret fr lo) {k : Fin 4} {i : Nat} {x : Int32} (L1 : List (Nat × Value)) (hd : decode cc pc = .ok (.istore_n k, 1)) (hi : (k : Nat) = i) (hn : i < nL) (hl : (i, Value.int x) :: L.filter (fun q => !(q.1 == i) && !(q.1 + 1 == i && q.2.category == 2)) = L1) (kk : zKK ad E Q (pc + 1) L1 (st) σ) : zKK ad E Q (pc) L (.int x :: st) σ := by
  obtain ⟨p, l, e, R, s, m, args, below, meth, c9, ⟨Z, A, k9, n9⟩, G⟩ := E
  intro H locs ls h1 h2 h3
  exact lv_istore_n X.1 X.2.1 hd hi h1 (by rw [X.2.2.1]; exact hn) hl (fun ls1 g1 => kk H locs ls1 g1 h2 h3)
set_option maxHeartbeats 4000000 in
theorem zr_iinc (X : zFX ad E cc nL own ret fr lo) {i : Nat} {n : Int} {x v : Int32} (L1 : List (Nat × Value)) (k : Nat) (hd : decode cc pc = .ok (.iinc i n, 3)) (hk : L[k]? = some (i, .int x)) (hv : x + Int32.ofInt n = v) (hn : i < nL) (hl : (i, Value.int v) :: L.filter (fun q => !(q.1 == i) && !(q.1 + 1 == i && q.2.category == 2)) = L1) (kk : zKK ad E Q (pc + 3) L1 (st) σ) : zKK ad E Q (pc) L (st) σ := by
  obtain ⟨p, l, e, R, s, m, args, below, meth, c9, ⟨Z, A, k9, n9⟩, G⟩ := E
  intro H locs ls h1 h2 h3
  exact lv_iinc X.1 X.2.1 hd h1 hk hv (by rw [X.2.2.1]; exact hn) hl (fun ls1 g1 => kk H locs ls1 g1 h2 h3)
set_option maxHeartbeats 4000000 in
theorem zr_norm (X : zFX ad E cc nL own ret fr lo) (ks : List Nat) (L1 : List (Nat × Value)) (hl : lv_pick L ks = L1) (kk : zKK ad E Q (pc) L1 (st) σ) : zKK ad E Q (pc) L (st) σ := by
  obtain ⟨p, l, e, R, s, m, args, below, meth, c9, ⟨Z, A, k9, n9⟩, G⟩ := E
  intro H locs ls h1 h2 h3
  exact kk H locs ls (lv_sub h1 ks hl) h2 h3
set_option maxHeartbeats 4000000 in
theorem zr_isub (X : zFX ad E cc nL own ret fr lo) {x y : Int32} (hd : decode cc pc = .ok (.isub, 1)) (kk : zKK ad E Q (pc + 1) L (.int (x - y) :: st) σ) : zKK ad E Q (pc) L (.int y :: .int x :: st) σ := by
  obtain ⟨p, l, e, R, s, m, args, below, meth, c9, ⟨Z, A, k9, n9⟩, G⟩ := E
  intro H locs ls h1 h2 h3
  exact lv_isub X.1 X.2.1 hd (kk H locs ls h1 h2 h3)
set_option maxHeartbeats 4000000 in
theorem zr_if_eq (X : zFX ad E cc nL own ret fr lo) {x : Int32} {off : Int} (tgt : Nat) (hd : decode cc pc = .ok (.ifCond .eq off, 3)) (ht : (pc : Int) + off = (tgt : Int)) (kt : x = 0 → zKK ad E Q (tgt) L (st) σ) (kf : ¬ x = 0 → zKK ad E Q (pc + 3) L (st) σ) : zKK ad E Q (pc) L (.int x :: st) σ := by
  obtain ⟨p, l, e, R, s, m, args, below, meth, c9, ⟨Z, A, k9, n9⟩, G⟩ := E
  intro H locs ls h1 h2 h3
  exact lv_if_eq X.1 X.2.1 hd ht (fun q => kt q H locs ls h1 h2 h3) (fun q => kf q H locs ls h1 h2 h3)
set_option maxHeartbeats 4000000 in
theorem zr_if_lt (X : zFX ad E cc nL own ret fr lo) {x : Int32} {off : Int} (tgt : Nat) (hd : decode cc pc = .ok (.ifCond .lt off, 3)) (ht : (pc : Int) + off = (tgt : Int)) (kt : x < 0 → zKK ad E Q (tgt) L (st) σ) (kf : ¬ x < 0 → zKK ad E Q (pc + 3) L (st) σ) : zKK ad E Q (pc) L (.int x :: st) σ := by
  obtain ⟨p, l, e, R, s, m, args, below, meth, c9, ⟨Z, A, k9, n9⟩, G⟩ := E
  intro H locs ls h1 h2 h3
  exact lv_if_lt X.1 X.2.1 hd ht (fun q => kt q H locs ls h1 h2 h3) (fun q => kf q H locs ls h1 h2 h3)
set_option maxHeartbeats 4000000 in
theorem zr_icmp_ne (X : zFX ad E cc nL own ret fr lo) {x y : Int32} {off : Int} (tgt : Nat) (hd : decode cc pc = .ok (.if_icmp .ne off, 3)) (ht : (pc : Int) + off = (tgt : Int)) (kt : ¬ x = y → zKK ad E Q (tgt) L (st) σ) (kf : x = y → zKK ad E Q (pc + 3) L (st) σ) : zKK ad E Q (pc) L (.int y :: .int x :: st) σ := by
  obtain ⟨p, l, e, R, s, m, args, below, meth, c9, ⟨Z, A, k9, n9⟩, G⟩ := E
  intro H locs ls h1 h2 h3
  exact lv_icmp_ne X.1 X.2.1 hd ht (fun q => kt q H locs ls h1 h2 h3) (fun q => kf q H locs ls h1 h2 h3)
set_option maxHeartbeats 4000000 in
theorem zr_icmp_lt (X : zFX ad E cc nL own ret fr lo) {x y : Int32} {off : Int} (tgt : Nat) (hd : decode cc pc = .ok (.if_icmp .lt off, 3)) (ht : (pc : Int) + off = (tgt : Int)) (kt : x < y → zKK ad E Q (tgt) L (st) σ) (kf : ¬ x < y → zKK ad E Q (pc + 3) L (st) σ) : zKK ad E Q (pc) L (.int y :: .int x :: st) σ := by
  obtain ⟨p, l, e, R, s, m, args, below, meth, c9, ⟨Z, A, k9, n9⟩, G⟩ := E
  intro H locs ls h1 h2 h3
  exact lv_icmp_lt X.1 X.2.1 hd ht (fun q => kt q H locs ls h1 h2 h3) (fun q => kf q H locs ls h1 h2 h3)
set_option maxHeartbeats 4000000 in
theorem zr_icmp_ge (X : zFX ad E cc nL own ret fr lo) {x y : Int32} {off : Int} (tgt : Nat) (hd : decode cc pc = .ok (.if_icmp .ge off, 3)) (ht : (pc : Int) + off = (tgt : Int)) (kt : y ≤ x → zKK ad E Q (tgt) L (st) σ) (kf : ¬ y ≤ x → zKK ad E Q (pc + 3) L (st) σ) : zKK ad E Q (pc) L (.int y :: .int x :: st) σ := by
  obtain ⟨p, l, e, R, s, m, args, below, meth, c9, ⟨Z, A, k9, n9⟩, G⟩ := E
  intro H locs ls h1 h2 h3
  exact lv_icmp_ge X.1 X.2.1 hd ht (fun q => kt q H locs ls h1 h2 h3) (fun q => kf q H locs ls h1 h2 h3)
set_option maxHeartbeats 4000000 in
theorem zr_icmp_le (X : zFX ad E cc nL own ret fr lo) {x y : Int32} {off : Int} (tgt : Nat) (hd : decode cc pc = .ok (.if_icmp .le off, 3)) (ht : (pc : Int) + off = (tgt : Int)) (kt : x ≤ y → zKK ad E Q (tgt) L (st) σ) (kf : ¬ x ≤ y → zKK ad E Q (pc + 3) L (st) σ) : zKK ad E Q (pc) L (.int y :: .int x :: st) σ := by
  obtain ⟨p, l, e, R, s, m, args, below, meth, c9, ⟨Z, A, k9, n9⟩, G⟩ := E
  intro H locs ls h1 h2 h3
  exact lv_icmp_le X.1 X.2.1 hd ht (fun q => kt q H locs ls h1 h2 h3) (fun q => kf q H locs ls h1 h2 h3)
set_option maxHeartbeats 4000000 in
theorem zr_goto (X : zFX ad E cc nL own ret fr lo) {off : Int} (tgt : Nat) (hd : decode cc pc = .ok (.goto off, 3)) (ht : (pc : Int) + off = (tgt : Int)) (kk : zKK ad E Q (tgt) L (st) σ) : zKK ad E Q (pc) L (st) σ := by
  obtain ⟨p, l, e, R, s, m, args, below, meth, c9, ⟨Z, A, k9, n9⟩, G⟩ := E
  intro H locs ls h1 h2 h3
  exact lv_goto X.1 X.2.1 hd ht (kk H locs ls h1 h2 h3)
set_option maxHeartbeats 4000000 in
theorem zr_iret (X : zFX ad E cc nL own ret fr lo) (hr0 : ret = some .int) {v : Int32} (hd : decode cc pc = .ok (.ireturn, 1)) (hq : Q (some (.int v)) σ) : zKK ad E Q pc L [.int v] σ := by
  obtain ⟨p, l, e, R, s, m, args, below, meth, c9, ⟨Z, A, k9, n9⟩, G⟩ := E
  intro H locs ls h1 h2 h3
  obtain ⟨hx, hb, -, -, -, -, -, hr1, hlk, -, -, -, -⟩ := X
  subst hr0
  obtain ⟨hr, rfl, rfl, rfl, rfl⟩ := hr1 (by simp)
  exact W.iret hx hb hr (fun t ht hW => ⟨⟨_, σ, rfl, hq, by rw [ht]; exact h2⟩, h3.F ht⟩) h3.2.2 hd hlk
set_option maxHeartbeats 4000000 in
theorem zr_zret (X : zFX ad E cc nL own ret fr lo) (hr0 : ret = some .boolean) {v : Int32} (hd : decode cc pc = .ok (.ireturn, 1)) (hv : v = 0 ∨ v = 1) (hq : Q (some (.int v)) σ) : zKK ad E Q pc L [.int v] σ := by
  obtain ⟨p, l, e, R, s, m, args, below, meth, c9, ⟨Z, A, k9, n9⟩, G⟩ := E
  intro H locs ls h1 h2 h3
  obtain ⟨hx, hb, -, -, -, -, -, hr1, hlk, -, -, -, -⟩ := X
  subst hr0
  obtain ⟨hr, rfl, rfl, rfl, rfl⟩ := hr1 (by simp)
  exact W.zret hx hb hr (by rcases hv with rfl | rfl <;> rfl) (fun t ht hW => ⟨⟨_, σ, rfl, hq, by rw [ht]; exact h2⟩, h3.F ht⟩) h3.2.2 hd hlk
set_option maxHeartbeats 4000000 in
theorem zr_vret (X : zFX ad E cc nL own ret fr lo) (hr0 : ret = none) (hd : decode cc pc = .ok (.return_, 1)) (hq : Q none σ) : zKK ad E Q pc L [] σ := by
  obtain ⟨p, l, e, R, s, m, args, below, meth, c9, ⟨Z, A, k9, n9⟩, G⟩ := E
  intro H locs ls h1 h2 h3
  obtain ⟨hx, hb, -, -, -, -, -, hr1, hlk, -, -, -, -⟩ := X
  subst hr0
  obtain ⟨hr, rfl, rfl, rfl, rfl⟩ := hr1 (by simp)
  exact W.vret hx hb hr (fun t ht hW => ⟨⟨_, σ, rfl, hq, by rw [ht]; exact h2⟩, h3.F ht⟩) h3.2.2 hd hlk
set_option maxHeartbeats 4000000 in
theorem zr_get (X : zFX ad E cc nL own ret fr lo) {o c N : Nat} {R1 ref : String} {T : u_T} {index : Nat} (ho : z_cl o = c) (h8 : c < 8) (hcl : x_cls[c]? = some (R1, T, N)) (hin : ∀ w ∈ u_ws R1 T N, w ∈ x_big) (k : Nat) (hk : k < N) (href : (T k).1 = ref) (hlink : Cond.fieldLink own index ref (T k).2.1 (T k).2.2.1 ∈ x_big) {v : Value} (hv : (x_fl ad σ c o)[k]? = some v) (hd : decode cc pc = .ok (.getfield index, 3)) (kk : zKK ad E Q (pc + 3) L (v :: st) σ) : zKK ad E Q (pc) L (.ref (ad o 0 0) :: st) σ := by
  obtain ⟨p, l, e, R, s, m, args, below, meth, c9, ⟨Z, A, k9, n9⟩, G⟩ := E
  intro H locs ls h1 h2 h3
  subst href
  exact va_get X.1 X.2.1 X.2.2.2.2.1 hin X.2.2.2.1 X.2.2.2.2.2.1.1 (h2.one (z_ent_o ho h8)) 0 rfl hcl k hk (X.2.2.2.2.1 _ hlink) (fun _ q => q) hv hd (kk H locs ls h1 h2 h3)
set_option maxHeartbeats 4000000 in
theorem zr_iald (X : zFX ad E cc nL own ret fr lo) {o c k n : Nat} (ho : z_cl o = c) (ha : z_ar c o k = some (0, n)) {i : Int32} (hin : vp_in i n) (hd : decode cc pc = .ok (.iaload, 1)) (kk : zKK ad E Q (pc + 1) L (.int (xA σ o k i.toNatClampNeg) :: st) σ) : zKK ad E Q (pc) L (.int i :: .ref (ad o (k + 1) 0) :: st) σ := by
  obtain ⟨p, l, e, R, s, m, args, below, meth, c9, ⟨Z, A, k9, n9⟩, G⟩ := E
  intro H locs ls h1 h2 h3
  subst ho
  exact va_iald X.1 X.2.1 X.2.2.2.2.2.1.1 (h2.one (z_ent_a ha)) 0 0 rfl rfl hin hd (kk H locs ls h1 h2 h3)
set_option maxHeartbeats 4000000 in
theorem zr_alen (X : zFX ad E cc nL own ret fr lo) {o c k n : Nat} (ho : z_cl o = c) (ha : z_ar c o k = some (0, n)) {v : Int32} (hv : Int32.ofNat n = v) (hd : decode cc pc = .ok (.arraylength, 1)) (kk : zKK ad E Q (pc + 1) L (.int v :: st) σ) : zKK ad E Q (pc) L (.ref (ad o (k + 1) 0) :: st) σ := by
  obtain ⟨p, l, e, R, s, m, args, below, meth, c9, ⟨Z, A, k9, n9⟩, G⟩ := E
  intro H locs ls h1 h2 h3
  subst ho
  exact va_alen X.1 X.2.1 X.2.2.2.2.2.1.1 (h2.one (z_ent_a ha)) 0 0 rfl rfl hv hd (kk H locs ls h1 h2 h3)
set_option maxHeartbeats 4000000 in
theorem zr_iast (X : zFX ad E cc nL own ret fr lo) {o c k n : Nat} (ho : z_cl o = c) (ha : z_ar c o k = some (0, n)) {i x : Int32} (hin : vp_in i n) (hd : decode cc pc = .ok (.iastore, 1)) (kk : zKK ad E Q (pc + 1) L (st) (xuA σ o k i.toNatClampNeg x)) : zKK ad E Q (pc) L (.int x :: .int i :: .ref (ad o (k + 1) 0) :: st) σ := by
  obtain ⟨p, l, e, R, s, m, args, below, meth, c9, ⟨Z, A, k9, n9⟩, G⟩ := E
  intro H locs ls h1 h2 h3
  subst ho
  obtain ⟨hx, hb, -, -, -, hV, hJ, -, -, -, -, hA, -⟩ := X
  have he0 := z_ent_a (ad := ad) (G := G) (σ := σ) ha
  have hc : H[ad o (k + 1) 0]? = some (vp_cell _ _) := h2 _ _ _ _ he0
  refine W.iast hx hb hc ((hV.1.2 0 _ rfl).1 n (fun j => .int (xA σ o k j))) (fun q => by cases q) (by show ¬ (i < 0 ∨ (arrV _ _ _).slots.size ≤ _); rw [arrV_size]; exact hin) rfl rfl hd fun H1 e z oq => ?_
  refine kk H1 _ ls h1 (h2.set hJ (z_ent_dom he0) (z_ent_a ha) (fun o' f' r' q => z_ent_setA q) ?_ oq) (h3.put z oq (hA _ ⟨_, _, _, z_ent_dom he0, rfl⟩))
  show H1[ad o (k + 1) 0]? = some (vp_cell _ _)
  rw [e]
  rw [vp_cell_i, vp_cell_i, arrV_store]
  congr 2
  funext q
  
  by_cases hq : q = i.toNatClampNeg
  · subst hq
    simp [updV, upd, vp_nar, xuA, xsA, xA]
    try rfl
  · simp [updV, upd, hq, xuA, xsA, xA]
set_option maxHeartbeats 4000000 in
theorem z_call {ad : xAd} {A : Nat → Prop} {k9 n9 : Nat} {p : Program} {l : Launch} {e : Env} {R : Room} {s : State} {m : MethodId} {args : Array Value} {below : List Frame} {meth : Method} {c : Code} {H : Heap} {locs : List Loc} {QQ : State → Prop} {pc : Nat} {ls : Array Slot} {rest st0 : List Value} {a : Array Value} {G : xG} {Qc : Option Value → xSt → Prop} (hr : va_Run p l e R s m args below meth c H locs k9 n9 0 0 (F0 m pc ls st0) rest (zxQ ad G Qc a) (zxW ad)) (hA : ∀ q, zxW ad q → A q) (hS : va_S A s.heap H locs)
    (kk : ∀ (v : Option Value) (σ' : xSt) (H1 : Heap) (locs1 : List Loc), Qc v σ' → zxP ad G σ' H1 → va_S A s.heap H1 locs1 → W p l e R s m args below meth c H1 locs1 k9 n9 QQ (F0 m (pc + 3) ls (v.toList ++ rest))) : W p l e R s m args below meth c H locs k9 n9 QQ (F0 m pc ls st0) := by
  intro T hT X
  obtain ⟨v, st₀, t, T', L, h0, X', hL, e1, e2, ⟨⟨v', σ', hv, hq, hP⟩, hz, hk⟩, st⟩ := hr T hT X
  cases hv
  rw [h0] at hz hk
  obtain ⟨t2, a1, b1⟩ := kk v σ' T'.heap (locs ++ L) hq (by rw [e1]; exact hP)
    ⟨Nat.le_trans hS.1 (by rw [e1]; exact hz), fun q h1 h2 => by rw [e1, hk q (Nat.lt_of_lt_of_le h1 hS.1) (fun z => h2 (hA q z))]; exact hS.2.1 q h1 h2, fun q hq => by
      rcases List.mem_append.mp hq with h | h
      · exact hS.2.2 q h
      · exact hA _ (hL q h)⟩ T' rfl X'
  exact ⟨t2, st t2 a1, b1⟩
set_option maxHeartbeats 4000000 in
theorem z_blind {ad : xAd} {G : xG} {av : List Value} {σ : xSt} : FrameBlind (zxPc ad G av σ) := fun a U g mk h => by
  obtain ⟨h0, h1, h2, h3⟩ := h
  exact ⟨h0, h1, xV.same (s := U) (U := U.calling g mk a) rfl h2, h3⟩
set_option maxHeartbeats 4000000 in
theorem z_pre {ad : xAd} {A : Nat → Prop} {G : xG} {av : List Value} {σ : xSt} {s : State} {H : Heap} {locs : List Loc} (hP : zxP ad G σ H) (hV : xV G A s s.heap) (hJ : zxJ ad) (hA : ∀ q, zxW ad q → A q) (hS : va_S A s.heap H locs) : ∀ U : State, U.heap = H → s.WarmedH U.vm → zxPc ad G av σ av.toArray U := fun U hU hW => by
  subst hU
  exact ⟨rfl, hP, ((hV.kept hS.2.1).warm hW).narrow hA, hJ⟩
set_option maxHeartbeats 4000000 in
theorem zr_callV (X : zFX ad E cc nL own ret fr lo) {index n mL fr1 lo1 : Nat} {y : MethodName} {b1 : ByteArray} {rt : Option FieldType} {As : List Value} {Qc : Option Value → xSt → Prop} {o c N : Nat} {C : String} {T : u_T} (hm : zMC ad (eG E) (eL E) y b1 mL rt fr1 lo1 (.ref (ad o 0 0) :: As) σ Qc) (ho : z_cl o = c) (h8 : c < 8) (hcl : x_cls[c]? = some (C, T, N)) (w1 : Cond.methodLink own index y ∈ x_big) (w2 : Cond.instanceMethod y ∈ x_big) (w3 : Cond.selects C y y ∈ x_big) (w4 : Cond.initialized y.cls ∈ x_big) (w5 : Cond.code y b1 mL rt ∈ x_big) (hy : y.cls ≠ "java/lang/invoke/MethodHandle" ∧ y.cls ≠ "java/lang/invoke/VarHandle" ∧ (parseMethodDescriptor y.desc).map (fun d => d.parameters.length) = some n) (hn : As.length = n) (hr : fr1 + 1 ≤ fr ∧ 8 + (mL + 11) + lo1 ≤ lo) (hst : (st.map fun v => v.category).sum ≤ 8) (hd : decode cc pc = .ok (.invokevirtual index, 3)) (kk : ∀ (v : Option Value) (σ1 : xSt), Qc v σ1 → zKK ad E Q (pc + 3) L (v.toList ++ st) σ1) : zKK ad E Q (pc) L (As.reverse ++ .ref (ad o 0 0) :: st) σ := by
  obtain ⟨p, l, e, R, s, m, args, below, meth, c9, ⟨Z, A, k9, n9⟩, G⟩ := E
  intro H locs ls h1 h2 h3
  obtain ⟨hx, hb, hml, hown, hts, hV, hJ, -, -, g1, g2, hA, hc⟩ := X
  exact z_call (va_runV (Ts := x_big) (As := As) (rest := st) ⟨hx, hb, hml, hown, hts⟩ hm ⟨callB_of n hts (x_gin w5) rfl rfl rfl (hts _ w4) (hts _ w1) hy ⟨Nat.le_trans hr.1 g1, Nat.le_trans hr.2 g2⟩, hts _ w2, hts _ w3⟩ ⟨z_blind, va_recv hV.1 (h2.one (z_ent_o ho h8)) hcl (q0 := 0) rfl, z_pre h2 hV hJ hA h3⟩ rfl hn (h1.1.trans hml) rfl (lv_room hst) hd hc) hA h3 (fun v σ1 H1 locs1 q g2 g3 => kk v σ1 q H1 locs1 ls h1 g2 g3)
set_option maxHeartbeats 4000000 in
theorem zr_callSN (X : zFX ad E cc nL own ret fr lo) {index n mL fr1 lo1 : Nat} {y : MethodName} {b1 : ByteArray} {rt : Option FieldType} {As : List Value} {Qc : Option Value → xSt → Prop} {host : String} (hm : zMC ad (eG E) (eL E) y b1 mL rt fr1 lo1 As σ Qc) (w1 : (own, index, y, host) ∈ x_nm) (w2 : Cond.static y ∈ x_big) (w4 : Cond.initialized y.cls ∈ x_big) (w5 : Cond.code y b1 mL rt ∈ x_big) (hy : y.cls ≠ "java/lang/invoke/MethodHandle" ∧ y.cls ≠ "java/lang/invoke/VarHandle" ∧ (parseMethodDescriptor y.desc).map (fun d => d.parameters.length) = some n) (hn : As.length = n) (hr : fr1 + 1 ≤ fr ∧ 8 + (mL + 11) + lo1 ≤ lo) (hst : (st.map fun v => v.category).sum ≤ 8) (hd : decode cc pc = .ok (.invokestatic index, 3)) (kk : ∀ (v : Option Value) (σ1 : xSt), Qc v σ1 → zKK ad E Q (pc + 3) L (v.toList ++ st) σ1) : zKK ad E Q (pc) L (As.reverse ++ st) σ := by
  obtain ⟨p, l, e, R, s, m, args, below, meth, c9, ⟨Z, A, k9, n9⟩, G⟩ := E
  intro H locs ls h1 h2 h3
  obtain ⟨hx, hb, hml, hown, hts, hV, hJ, -, -, g1, g2, hA, hc⟩ := X
  exact z_call (va_runSN (Ts := x_big) (host := host) (As := As) (rest := st) ⟨hx, hb, hml, hown, hts⟩ hm ⟨va_cnB n hts (x_gin w5) rfl rfl rfl (hV.2.2.1 _ w1) (hts _ w4) hy ⟨Nat.le_trans hr.1 g1, Nat.le_trans hr.2 g2⟩, hts _ w2, trivial⟩ ⟨z_blind, z_pre h2 hV hJ hA h3⟩ rfl hn (h1.1.trans hml) rfl (lv_room hst) hd hc) hA h3 (fun v σ1 H1 locs1 q g2 g3 => kk v σ1 q H1 locs1 ls h1 g2 g3)
end zXR
set_option maxHeartbeats 4000000 in
theorem zr_nmS {ad : xAd} {E : xE} {Q : Option Value → xSt → Prop} {pc : Nat} {L : List (Nat × Value)} {st : List Value} {σ : xSt} (kk : ∀ s : xSt, s = σ → zKK ad E Q pc L st s) : zKK ad E Q pc L st σ := kk σ rfl
set_option maxHeartbeats 4000000 in
theorem zgf_6_14 {ad : xAd} {E : xE} {Q : Option Value → xSt → Prop} {cc : ByteArray} {nL fr lo : Nat} {ret : Option FieldType} {pc : Nat} {L : List (Nat × Value)} {st : List Value} {σ : xSt} (X : zFX ad E cc nL RX6 ret fr lo) {o : Nat} (ho : z_cl o = 6) (hd : decode cc pc = .ok (.getfield 14, 3)) (kk : zKK ad E Q (pc + 3) L (.ref (ad 1 0 0) :: st) σ) : zKK ad E Q pc L (.ref (ad o 0 0) :: st) σ := zr_get X ho (by decide) rfl inX6 0 (by decide) rfl mf_6_14 rfl hd kk
set_option maxHeartbeats 4000000 in
theorem zgf_6_24 {ad : xAd} {E : xE} {Q : Option Value → xSt → Prop} {cc : ByteArray} {nL fr lo : Nat} {ret : Option FieldType} {pc : Nat} {L : List (Nat × Value)} {st : List Value} {σ : xSt} (X : zFX ad E cc nL RX6 ret fr lo) {o : Nat} (ho : z_cl o = 6) (hd : decode cc pc = .ok (.getfield 24, 3)) (kk : zKK ad E Q (pc + 3) L (.ref (ad 3 0 0) :: st) σ) : zKK ad E Q pc L (.ref (ad o 0 0) :: st) σ := zr_get X ho (by decide) rfl inX6 2 (by decide) rfl mf_6_24 rfl hd kk
set_option maxHeartbeats 4000000 in
theorem zgf_1_9 {ad : xAd} {E : xE} {Q : Option Value → xSt → Prop} {cc : ByteArray} {nL fr lo : Nat} {ret : Option FieldType} {pc : Nat} {L : List (Nat × Value)} {st : List Value} {σ : xSt} (X : zFX ad E cc nL RX1 ret fr lo) {o : Nat} (ho : z_cl o = 1) (hd : decode cc pc = .ok (.getfield 9, 3)) (kk : zKK ad E Q (pc + 3) L (.ref (ad o 1 0) :: st) σ) : zKK ad E Q pc L (.ref (ad o 0 0) :: st) σ := zr_get X ho (by decide) rfl inX1 0 (by decide) rfl mf_1_9 rfl hd kk
set_option maxHeartbeats 4000000 in
theorem zgf_5_15 {ad : xAd} {E : xE} {Q : Option Value → xSt → Prop} {cc : ByteArray} {nL fr lo : Nat} {ret : Option FieldType} {pc : Nat} {L : List (Nat × Value)} {st : List Value} {σ : xSt} (X : zFX ad E cc nL RX5 ret fr lo) {o : Nat} (ho : z_cl o = 5) (hd : decode cc pc = .ok (.getfield 15, 3)) (kk : zKK ad E Q (pc + 3) L (.ref (ad o 1 0) :: st) σ) : zKK ad E Q pc L (.ref (ad o 0 0) :: st) σ := zr_get X ho (by decide) rfl inX5 0 (by decide) rfl mf_5_15 rfl hd kk
set_option maxHeartbeats 4000000 in
theorem zgf_5_21 {ad : xAd} {E : xE} {Q : Option Value → xSt → Prop} {cc : ByteArray} {nL fr lo : Nat} {ret : Option FieldType} {pc : Nat} {L : List (Nat × Value)} {st : List Value} {σ : xSt} (X : zFX ad E cc nL RX5 ret fr lo) {o : Nat} (ho : z_cl o = 5) (hd : decode cc pc = .ok (.getfield 21, 3)) (kk : zKK ad E Q (pc + 3) L (.int (xI σ o 1) :: st) σ) : zKK ad E Q pc L (.ref (ad o 0 0) :: st) σ := zr_get X ho (by decide) rfl inX5 1 (by decide) rfl mf_5_21 rfl hd kk
set_option maxHeartbeats 4000000 in
theorem zcl6_isPlace_N {ad : xAd} {E : xE} {Q : Option Value → xSt → Prop} {cc : ByteArray} {nL fr lo : Nat} {own : String} {ret : Option FieldType} {pc : Nat} {L : List (Nat × Value)} {st : List Value} {σ : xSt} (X : zFX ad E cc nL own ret fr lo) {index : Nat} {a0 : Int32} {Q1 : Int32 → xSt → Prop} (hm : zMC ad (eG E) (eL E) yX6_isPlace cX6_isPlace 1 (some .boolean) 0 0 [.int a0] σ (qZ Q1)) (w1 : (own, index, yX6_isPlace, "WoodliceSenate") ∈ x_nm) (hr : 0 + 1 ≤ fr ∧ 8 + (1 + 11) + 0 ≤ lo) (hst : (st.map fun v => v.category).sum ≤ 8) (hd : decode cc pc = .ok (.invokestatic index, 3)) (kk : ∀ r s1, (r = 0 ∨ r = 1) → Q1 r s1 → zKK ad E Q (pc + 3) L (.int r :: st) s1) : zKK ad E Q pc L (.int a0 :: st) σ := by
  refine zr_callSN (As := [.int a0]) (n := 1) X hm w1 ms_6_isPlace mn_6 mc_6_isPlace ⟨by decide +kernel, by decide +kernel, by decide +kernel⟩ rfl hr hst hd (fun v s1 q => ?_)
  obtain ⟨r, rfl, z, q⟩ := q; exact kk r s1 z q
set_option maxHeartbeats 4000000 in
theorem zcl1_setDamp {ad : xAd} {E : xE} {Q : Option Value → xSt → Prop} {cc : ByteArray} {nL fr lo : Nat} {own : String} {ret : Option FieldType} {pc : Nat} {L : List (Nat × Value)} {st : List Value} {σ : xSt} (X : zFX ad E cc nL own ret fr lo) {index : Nat} {o : Nat} {a1 : Int32} {a2 : Int32} {Q1 : xSt → Prop} (hm : zMC ad (eG E) (eL E) yX1_setDamp cX1_setDamp 3 none 1 20 [.ref (ad o 0 0), .int a1, .int a2] σ (qV Q1)) (ho : z_cl o = 1) (w1 : Cond.methodLink own index yX1_setDamp ∈ x_big) (hr : 1 + 1 ≤ fr ∧ 8 + (3 + 11) + 20 ≤ lo) (hst : (st.map fun v => v.category).sum ≤ 8) (hd : decode cc pc = .ok (.invokevirtual index, 3)) (kk : ∀ s1, Q1 s1 → zKK ad E Q (pc + 3) L (st) s1) : zKK ad E Q pc L (.int a2 :: .int a1 :: .ref (ad o 0 0) :: st) σ := by
  refine zr_callV (As := [.int a1, .int a2]) (n := 2) X hm ho (by decide) rfl w1 mi_1_setDamp mv_1_setDamp mn_1 mc_1_setDamp ⟨by decide +kernel, by decide +kernel, by decide +kernel⟩ rfl hr hst hd (fun v s1 q => ?_)
  obtain ⟨rfl, q⟩ := q; exact kk s1 q
set_option maxHeartbeats 4000000 in
theorem zcl5_size {ad : xAd} {E : xE} {Q : Option Value → xSt → Prop} {cc : ByteArray} {nL fr lo : Nat} {own : String} {ret : Option FieldType} {pc : Nat} {L : List (Nat × Value)} {st : List Value} {σ : xSt} (X : zFX ad E cc nL own ret fr lo) {index : Nat} {o : Nat} {Q1 : Int32 → xSt → Prop} (hm : zMC ad (eG E) (eL E) yX5_size cX5_size 1 (some .int) 0 0 [.ref (ad o 0 0)] σ (qI Q1)) (ho : z_cl o = 5) (w1 : Cond.methodLink own index yX5_size ∈ x_big) (hr : 0 + 1 ≤ fr ∧ 8 + (1 + 11) + 0 ≤ lo) (hst : (st.map fun v => v.category).sum ≤ 8) (hd : decode cc pc = .ok (.invokevirtual index, 3)) (kk : ∀ r s1, Q1 r s1 → zKK ad E Q (pc + 3) L (.int r :: st) s1) : zKK ad E Q pc L (.ref (ad o 0 0) :: st) σ := by
  refine zr_callV (As := []) (n := 0) X hm ho (by decide) rfl w1 mi_5_size mv_5_size mn_5 mc_5_size ⟨by decide +kernel, by decide +kernel, by decide +kernel⟩ rfl hr hst hd (fun v s1 q => ?_)
  obtain ⟨r, rfl, q⟩ := q; exact kk r s1 q
set_option maxHeartbeats 4000000 in
theorem zcl5_byteAt {ad : xAd} {E : xE} {Q : Option Value → xSt → Prop} {cc : ByteArray} {nL fr lo : Nat} {own : String} {ret : Option FieldType} {pc : Nat} {L : List (Nat × Value)} {st : List Value} {σ : xSt} (X : zFX ad E cc nL own ret fr lo) {index : Nat} {o : Nat} {a1 : Int32} {Q1 : Int32 → xSt → Prop} (hm : zMC ad (eG E) (eL E) yX5_byteAt cX5_byteAt 2 (some .int) 0 0 [.ref (ad o 0 0), .int a1] σ (qI Q1)) (ho : z_cl o = 5) (w1 : Cond.methodLink own index yX5_byteAt ∈ x_big) (hr : 0 + 1 ≤ fr ∧ 8 + (2 + 11) + 0 ≤ lo) (hst : (st.map fun v => v.category).sum ≤ 8) (hd : decode cc pc = .ok (.invokevirtual index, 3)) (kk : ∀ r s1, Q1 r s1 → zKK ad E Q (pc + 3) L (.int r :: st) s1) : zKK ad E Q pc L (.int a1 :: .ref (ad o 0 0) :: st) σ := by
  refine zr_callV (As := [.int a1]) (n := 1) X hm ho (by decide) rfl w1 mi_5_byteAt mv_5_byteAt mn_5 mc_5_byteAt ⟨by decide +kernel, by decide +kernel, by decide +kernel⟩ rfl hr hst hd (fun v s1 q => ?_)
  obtain ⟨r, rfl, q⟩ := q; exact kk r s1 q
set_option maxHeartbeats 4000000 in
theorem zcl6_faultOfStone {ad : xAd} {E : xE} {Q : Option Value → xSt → Prop} {cc : ByteArray} {nL fr lo : Nat} {own : String} {ret : Option FieldType} {pc : Nat} {L : List (Nat × Value)} {st : List Value} {σ : xSt} (X : zFX ad E cc nL own ret fr lo) {index : Nat} {Q1 : Int32 → xSt → Prop} (hm : zMC ad (eG E) (eL E) yX6_faultOfStone cX6_faultOfStone 3 (some .int) 1 21 [.ref (ad 0 0 0)] σ (qI Q1)) (ho : z_cl 0 = 6) (w1 : Cond.methodLink own index yX6_faultOfStone ∈ x_big) (hr : 1 + 1 ≤ fr ∧ 8 + (3 + 11) + 21 ≤ lo) (hst : (st.map fun v => v.category).sum ≤ 8) (hd : decode cc pc = .ok (.invokevirtual index, 3)) (kk : ∀ r s1, Q1 r s1 → zKK ad E Q (pc + 3) L (.int r :: st) s1) : zKK ad E Q pc L (.ref (ad 0 0 0) :: st) σ := by
  refine zr_callV (As := []) (n := 0) X hm ho (by decide) rfl w1 mi_6_faultOfStone mv_6_faultOfStone mn_6 mc_6_faultOfStone ⟨by decide +kernel, by decide +kernel, by decide +kernel⟩ rfl hr hst hd (fun v s1 q => ?_)
  obtain ⟨r, rfl, q⟩ := q; exact kk r s1 q
set_option maxHeartbeats 4000000 in
set_option maxRecDepth 10000 in
theorem zk6_isPlace {ad : xAd} {G : xG} {l : Launch} {a0 : Int32} {σ : xSt} {Q : Int32 → xSt → Prop}  (h : d6_isPlace a0 σ Q) : zMC ad G l yX6_isPlace cX6_isPlace 1 (some .boolean) 0 0 [.int a0] σ (qZ Q) := by
  unfold d6_isPlace at h
  refine z_MC [(0, .int a0)] (by decide +kernel) rfl (Nat.le_of_ble_eq_true rfl) ?_
  intro E hG hl X
  replace X : zFX ad E cX6_isPlace 1 RX6 (some .boolean) 0 0 := X
  refine zr_iload_n X (x_dr DX6_isPlace 0 rfl) 0 rfl rfl ?_
  refine zr_if_lt X 14 (x_dr DX6_isPlace 1 rfl) (by decide) (fun c1 => ?_) (fun c1 => ?_)
  · replace h := h.1 c1
    refine zr_iconst (v := 0) X (x_dr DX6_isPlace 7 rfl) (by decide) ?_
    exact zr_zret X rfl (x_dr DX6_isPlace 8 rfl) (Or.inl rfl) ⟨_, rfl, (Or.inl rfl), h⟩
  · replace h := h.2 c1
    refine zr_iload_n X (x_dr DX6_isPlace 2 rfl) 0 rfl rfl ?_
    refine zr_bipush (v := 12) X (x_dr DX6_isPlace 3 rfl) (by decide) ?_
    refine zr_icmp_ge X 14 (x_dr DX6_isPlace 4 rfl) (by decide) (fun c2 => ?_) (fun c2 => ?_)
    · replace h := h.1 c2
      refine zr_iconst (v := 0) X (x_dr DX6_isPlace 7 rfl) (by decide) ?_
      exact zr_zret X rfl (x_dr DX6_isPlace 8 rfl) (Or.inl rfl) ⟨_, rfl, (Or.inl rfl), h⟩
    · replace h := h.2 c2
      refine zr_iconst (v := 1) X (x_dr DX6_isPlace 5 rfl) (by decide) ?_
      refine zr_goto X 15 (x_dr DX6_isPlace 6 rfl) (by decide) ?_
      exact zr_zret X rfl (x_dr DX6_isPlace 8 rfl) (Or.inr rfl) ⟨_, rfl, (Or.inr rfl), h⟩
set_option maxHeartbeats 4000000 in
set_option maxRecDepth 10000 in
theorem zk1_setDamp {ad : xAd} {G : xG} {l : Launch} {o : Nat} {a1 : Int32} {a2 : Int32} {σ : xSt} {Q : xSt → Prop} (ho : z_cl o = 1) (h : d1_setDamp o a1 a2 σ Q) : zMC ad G l yX1_setDamp cX1_setDamp 3 none 1 20 [.ref (ad o 0 0), .int a1, .int a2] σ (qV Q) := by
  unfold d1_setDamp at h
  refine z_MC [(0, .ref (ad o 0 0)), (1, .int a1), (2, .int a2)] (by decide +kernel) rfl (Nat.le_of_ble_eq_true rfl) ?_
  intro E hG hl X
  replace X : zFX ad E cX1_setDamp 3 RX1 none 1 20 := X
  refine zr_iload_n X (x_dr DX1_setDamp 0 rfl) 1 rfl rfl ?_
  refine zcl6_isPlace_N X (zk6_isPlace h) (x_nm_mem 5 rfl) ⟨Nat.le_of_ble_eq_true rfl, Nat.le_of_ble_eq_true rfl⟩ (Nat.le_of_ble_eq_true rfl) (x_dr DX1_setDamp 1 rfl) (fun v2 s1 zv2 h => ?_)
  refine zr_if_eq X 14 (x_dr DX1_setDamp 2 rfl) (by decide) (fun c3 => ?_) (fun c3 => ?_)
  · replace h := h.1 c3
    exact zr_vret X rfl (x_dr DX1_setDamp 8 rfl) ⟨rfl, h⟩
  · replace h := h.2 c3
    refine zr_aload_n X (x_dr DX1_setDamp 3 rfl) 0 rfl rfl ?_
    refine zgf_1_9 X ho (x_dr DX1_setDamp 4 rfl) ?_
    refine zr_iload_n X (x_dr DX1_setDamp 5 rfl) 1 rfl rfl ?_
    refine zr_iload_n X (x_dr DX1_setDamp 6 rfl) 2 rfl rfl ?_
    obtain ⟨b4, h⟩ := h
    refine zr_iast X ho rfl b4 (x_dr DX1_setDamp 7 rfl) ?_
    refine zr_nmS (fun s5 es5 => ?_)
    replace h := h s5 es5
    exact zr_vret X rfl (x_dr DX1_setDamp 8 rfl) ⟨rfl, h⟩
set_option maxHeartbeats 4000000 in
set_option maxRecDepth 10000 in
theorem zk5_size {ad : xAd} {G : xG} {l : Launch} {o : Nat} {σ : xSt} {Q : Int32 → xSt → Prop} (ho : z_cl o = 5) (h : d5_size o σ Q) : zMC ad G l yX5_size cX5_size 1 (some .int) 0 0 [.ref (ad o 0 0)] σ (qI Q) := by
  unfold d5_size at h
  refine z_MC [(0, .ref (ad o 0 0))] (by decide +kernel) rfl (Nat.le_of_ble_eq_true rfl) ?_
  intro E hG hl X
  replace X : zFX ad E cX5_size 1 RX5 (some .int) 0 0 := X
  refine zr_aload_n X (x_dr DX5_size 0 rfl) 0 rfl rfl ?_
  refine zgf_5_21 X ho (x_dr DX5_size 1 rfl) ?_
  exact zr_iret X rfl (x_dr DX5_size 2 rfl) ⟨_, rfl, h⟩
set_option maxHeartbeats 4000000 in
set_option maxRecDepth 10000 in
theorem zk5_byteAt {ad : xAd} {G : xG} {l : Launch} {o : Nat} {a1 : Int32} {σ : xSt} {Q : Int32 → xSt → Prop} (ho : z_cl o = 5) (h : d5_byteAt o a1 σ Q) : zMC ad G l yX5_byteAt cX5_byteAt 2 (some .int) 0 0 [.ref (ad o 0 0), .int a1] σ (qI Q) := by
  unfold d5_byteAt at h
  refine z_MC [(0, .ref (ad o 0 0)), (1, .int a1)] (by decide +kernel) rfl (Nat.le_of_ble_eq_true rfl) ?_
  intro E hG hl X
  replace X : zFX ad E cX5_byteAt 2 RX5 (some .int) 0 0 := X
  refine zr_iload_n X (x_dr DX5_byteAt 0 rfl) 1 rfl rfl ?_
  refine zr_if_lt X 30 (x_dr DX5_byteAt 1 rfl) (by decide) (fun c1 => ?_) (fun c1 => ?_)
  · replace h := h.1 c1
    refine zr_iconst (v := (-1)) X (x_dr DX5_byteAt 16 rfl) (by decide) ?_
    exact zr_iret X rfl (x_dr DX5_byteAt 17 rfl) ⟨_, rfl, h⟩
  · replace h := h.2 c1
    refine zr_iload_n X (x_dr DX5_byteAt 2 rfl) 1 rfl rfl ?_
    refine zr_aload_n X (x_dr DX5_byteAt 3 rfl) 0 rfl rfl ?_
    refine zgf_5_21 X ho (x_dr DX5_byteAt 4 rfl) ?_
    refine zr_icmp_ge X 30 (x_dr DX5_byteAt 5 rfl) (by decide) (fun c2 => ?_) (fun c2 => ?_)
    · replace h := h.1 c2
      refine zr_iconst (v := (-1)) X (x_dr DX5_byteAt 16 rfl) (by decide) ?_
      exact zr_iret X rfl (x_dr DX5_byteAt 17 rfl) ⟨_, rfl, h⟩
    · replace h := h.2 c2
      refine zr_iload_n X (x_dr DX5_byteAt 6 rfl) 1 rfl rfl ?_
      refine zr_aload_n X (x_dr DX5_byteAt 7 rfl) 0 rfl rfl ?_
      refine zgf_5_15 X ho (x_dr DX5_byteAt 8 rfl) ?_
      refine zr_alen X ho rfl (v := (if o = 1 then 12 else 31)) (by split <;> rfl) (x_dr DX5_byteAt 9 rfl) ?_
      refine zr_icmp_ge X 30 (x_dr DX5_byteAt 10 rfl) (by decide) (fun c3 => ?_) (fun c3 => ?_)
      · replace h := h.1 c3
        refine zr_iconst (v := (-1)) X (x_dr DX5_byteAt 16 rfl) (by decide) ?_
        exact zr_iret X rfl (x_dr DX5_byteAt 17 rfl) ⟨_, rfl, h⟩
      · replace h := h.2 c3
        refine zr_aload_n X (x_dr DX5_byteAt 11 rfl) 0 rfl rfl ?_
        refine zgf_5_15 X ho (x_dr DX5_byteAt 12 rfl) ?_
        refine zr_iload_n X (x_dr DX5_byteAt 13 rfl) 1 rfl rfl ?_
        obtain ⟨b4, h⟩ := h
        refine zr_iald X ho rfl b4 (x_dr DX5_byteAt 14 rfl) ?_
        refine zr_goto X 31 (x_dr DX5_byteAt 15 rfl) (by decide) ?_
        exact zr_iret X rfl (x_dr DX5_byteAt 17 rfl) ⟨_, rfl, h⟩
set_option maxHeartbeats 4000000 in
set_option maxRecDepth 10000 in
theorem zw6_faultOfStone_L2 {ad : xAd} {E : xE} (X : zFX ad E cX6_faultOfStone 3 RX6 (some .int) 1 21)   {K : xSt → Prop} {Q : Int32 → xSt → Prop} : ∀ (n : Nat) (a1 : Int32) (σ : xSt), d6_faultOfStone_L2 K Q n a1 σ → (∀ (s : xSt), K  s → zKK ad E (qI Q) 42 ([]) [] s) → zKK ad E (qI Q) 2 ([(0, .ref (ad 0 0 0)), (1, .int a1)]) [] σ := by
  intro n
  induction n with
  | zero => intro a1 σ h kk; exact h.elim
  | succ n ih =>
    intro a1 σ h kk
    rw [d6_faultOfStone_L2] at h
    refine zr_iload_n X (x_dr DX6_faultOfStone 2 rfl) 1 rfl rfl ?_
    refine zr_aload_n X (x_dr DX6_faultOfStone 3 rfl) 0 rfl rfl ?_
    refine zgf_6_14 X rfl (x_dr DX6_faultOfStone 4 rfl) ?_
    refine zcl5_size X (zk5_size rfl h) rfl ml_6_89 ⟨Nat.le_of_ble_eq_true rfl, Nat.le_of_ble_eq_true rfl⟩ (Nat.le_of_ble_eq_true rfl) (x_dr DX6_faultOfStone 5 rfl) (fun v2 s1 h => ?_)
    refine zr_icmp_ge X 42 (x_dr DX6_faultOfStone 6 rfl) (by decide) (fun c3 => ?_) (fun c3 => ?_)
    · replace h := h.1 c3
      refine zr_norm X [] ([]) rfl ?_
      exact kk  _ h
    · replace h := h.2 c3
      refine zr_aload_n X (x_dr DX6_faultOfStone 7 rfl) 0 rfl rfl ?_
      refine zgf_6_14 X rfl (x_dr DX6_faultOfStone 8 rfl) ?_
      refine zr_iload_n X (x_dr DX6_faultOfStone 9 rfl) 1 rfl rfl ?_
      refine zcl5_byteAt X (zk5_byteAt rfl h) rfl ml_6_328 ⟨Nat.le_of_ble_eq_true rfl, Nat.le_of_ble_eq_true rfl⟩ (Nat.le_of_ble_eq_true rfl) (x_dr DX6_faultOfStone 10 rfl) (fun v5 s4 h => ?_)
      refine zr_istore_n X ([(2, .int v5), (0, .ref (ad 0 0 0)), (1, .int a1)]) (x_dr DX6_faultOfStone 11 rfl) rfl (by decide) rfl ?_
      refine zr_iload_n X (x_dr DX6_faultOfStone 12 rfl) 0 rfl rfl ?_
      refine zr_bipush (v := 48) X (x_dr DX6_faultOfStone 13 rfl) (by decide) ?_
      refine zr_icmp_lt X 34 (x_dr DX6_faultOfStone 14 rfl) (by decide) (fun c6 => ?_) (fun c6 => ?_)
      · replace h := h.1 c6
        refine zr_iload_n X (x_dr DX6_faultOfStone 18 rfl) 2 rfl rfl ?_
        exact zr_iret X rfl (x_dr DX6_faultOfStone 19 rfl) ⟨_, rfl, h⟩
      · replace h := h.2 c6
        refine zr_iload_n X (x_dr DX6_faultOfStone 15 rfl) 0 rfl rfl ?_
        refine zr_bipush (v := 57) X (x_dr DX6_faultOfStone 16 rfl) (by decide) ?_
        refine zr_icmp_le X 36 (x_dr DX6_faultOfStone 17 rfl) (by decide) (fun c7 => ?_) (fun c7 => ?_)
        · replace h := h.1 c7
          obtain ⟨v8, ev8⟩ : ∃ z : Int32, z = a1 + 1 := ⟨_, rfl⟩
          replace h := h v8 ev8
          refine zr_iinc (v := v8) X ([(1, .int v8), (2, .int v5), (0, .ref (ad 0 0 0))]) 2 (x_dr DX6_faultOfStone 20 rfl) rfl (by rw [ev8]; rfl) (by decide) rfl ?_
          refine zr_goto X 2 (x_dr DX6_faultOfStone 21 rfl) (by decide) ?_
          refine zr_norm X [2, 0] ([(0, .ref (ad 0 0 0)), (1, .int v8)]) rfl ?_
          exact ih _ _ h kk
        · replace h := h.2 c7
          refine zr_iload_n X (x_dr DX6_faultOfStone 18 rfl) 2 rfl rfl ?_
          exact zr_iret X rfl (x_dr DX6_faultOfStone 19 rfl) ⟨_, rfl, h⟩
set_option maxHeartbeats 4000000 in
set_option maxRecDepth 10000 in
theorem zk6_faultOfStone {ad : xAd} {G : xG} {l : Launch} {σ : xSt} {Q : Int32 → xSt → Prop}  (h : d6_faultOfStone σ Q) : zMC ad G l yX6_faultOfStone cX6_faultOfStone 3 (some .int) 1 21 [.ref (ad 0 0 0)] σ (qI Q) := by
  unfold d6_faultOfStone at h
  refine z_MC [(0, .ref (ad 0 0 0))] (by decide +kernel) rfl (Nat.le_of_ble_eq_true rfl) ?_
  intro E hG hl X
  replace X : zFX ad E cX6_faultOfStone 3 RX6 (some .int) 1 21 := X
  refine zr_iconst (v := 0) X (x_dr DX6_faultOfStone 0 rfl) (by decide) ?_
  refine zr_istore_n X ([(1, .int 0), (0, .ref (ad 0 0 0))]) (x_dr DX6_faultOfStone 1 rfl) rfl (by decide) rfl ?_
  refine zr_norm X [1, 0] ([(0, .ref (ad 0 0 0)), (1, .int 0)]) rfl ?_
  refine zw6_faultOfStone_L2 X  _ _ _ h (fun s9 h => ?_)
  refine zr_iconst (v := (-1)) X (x_dr DX6_faultOfStone 22 rfl) (by decide) ?_
  exact zr_iret X rfl (x_dr DX6_faultOfStone 23 rfl) ⟨_, rfl, h⟩
set_option maxHeartbeats 4000000 in
set_option maxRecDepth 10000 in
theorem zw6_readStone_L22 {ad : xAd} {E : xE} (X : zFX ad E cX6_readStone 3 RX6 none 2 43)   {a1 : Int32} {K : xSt → Prop} {Q : xSt → Prop} : ∀ (n : Nat) (a2 : Int32) (σ : xSt), d6_readStone_L22 a1 K Q n a2 σ → (∀ (s : xSt), K  s → zKK ad E (qV Q) 62 ([]) [] s) → zKK ad E (qV Q) 22 ([(0, .ref (ad 0 0 0)), (1, .int a1), (2, .int a2)]) [] σ := by
  intro n
  induction n with
  | zero => intro a2 σ h kk; exact h.elim
  | succ n ih =>
    intro a2 σ h kk
    rw [d6_readStone_L22] at h
    refine zr_iload_n X (x_dr DX6_readStone 12 rfl) 2 rfl rfl ?_
    refine zr_bipush (v := 12) X (x_dr DX6_readStone 13 rfl) (by decide) ?_
    refine zr_icmp_ge X 62 (x_dr DX6_readStone 14 rfl) (by decide) (fun c9 => ?_) (fun c9 => ?_)
    · replace h := h.1 c9
      refine zr_norm X [] ([]) rfl ?_
      exact kk  _ h
    · replace h := h.2 c9
      refine zr_aload_n X (x_dr DX6_readStone 15 rfl) 0 rfl rfl ?_
      refine zgf_6_24 X rfl (x_dr DX6_readStone 16 rfl) ?_
      refine zr_iload_n X (x_dr DX6_readStone 17 rfl) 2 rfl rfl ?_
      refine zr_iload_n X (x_dr DX6_readStone 18 rfl) 2 rfl rfl ?_
      refine zr_iload_n X (x_dr DX6_readStone 19 rfl) 1 rfl rfl ?_
      obtain ⟨j15, ej15, h⟩ := x_jn h
      have Jj15 : ∀ (v13 : Int32) (s14 : xSt), j15 v13 s14 → zKK ad E (qV Q) 53 ([(0, .ref (ad 0 0 0)), (1, .int a1), (2, .int a2)]) [.int v13, .int a2, .ref (ad 3 0 0)] s14 := by
        intro v13 s14 h
        rw [ej15] at h
        refine zcl1_setDamp X (zk1_setDamp rfl h) rfl ml_6_337 ⟨Nat.le_of_ble_eq_true rfl, Nat.le_of_ble_eq_true rfl⟩ (Nat.le_of_ble_eq_true rfl) (x_dr DX6_readStone 29 rfl) (fun s16 h => ?_)
        obtain ⟨v17, ev17⟩ : ∃ z : Int32, z = a2 + 1 := ⟨_, rfl⟩
        replace h := h v17 ev17
        refine zr_iinc (v := v17) X ([(2, .int v17), (0, .ref (ad 0 0 0)), (1, .int a1)]) 2 (x_dr DX6_readStone 30 rfl) rfl (by rw [ev17]; rfl) (by decide) rfl ?_
        refine zr_goto X 22 (x_dr DX6_readStone 31 rfl) (by decide) ?_
        refine zr_norm X [1, 2, 0] ([(0, .ref (ad 0 0 0)), (1, .int a1), (2, .int v17)]) rfl ?_
        exact ih _ _ h kk
      refine zr_icmp_ge X 52 (x_dr DX6_readStone 20 rfl) (by decide) (fun c18 => ?_) (fun c18 => ?_)
      · replace h := h.1 c18
        refine zr_iconst (v := 5) X (x_dr DX6_readStone 28 rfl) (by decide) ?_
        refine zr_norm X [0, 1, 2] ([(0, .ref (ad 0 0 0)), (1, .int a1), (2, .int a2)]) rfl ?_
        exact Jj15 _ _ h
      · replace h := h.2 c18
        refine zr_aload_n X (x_dr DX6_readStone 21 rfl) 0 rfl rfl ?_
        refine zgf_6_14 X rfl (x_dr DX6_readStone 22 rfl) ?_
        refine zr_iload_n X (x_dr DX6_readStone 23 rfl) 2 rfl rfl ?_
        refine zcl5_byteAt X (zk5_byteAt rfl h) rfl ml_6_328 ⟨Nat.le_of_ble_eq_true rfl, Nat.le_of_ble_eq_true rfl⟩ (Nat.le_of_ble_eq_true rfl) (x_dr DX6_readStone 24 rfl) (fun v20 s19 h => ?_)
        refine zr_bipush (v := 48) X (x_dr DX6_readStone 25 rfl) (by decide) ?_
        refine zr_isub X (x_dr DX6_readStone 26 rfl) ?_
        refine zr_goto X 53 (x_dr DX6_readStone 27 rfl) (by decide) ?_
        refine zr_norm X [0, 1, 2] ([(0, .ref (ad 0 0 0)), (1, .int a1), (2, .int a2)]) rfl ?_
        exact Jj15 _ _ h
set_option maxHeartbeats 4000000 in
set_option maxRecDepth 10000 in
theorem zk6_readStone {ad : xAd} {G : xG} {l : Launch} {σ : xSt} {Q : xSt → Prop}  (h : d6_readStone σ Q) : zMC ad G l yX6_readStone cX6_readStone 3 none 2 43 [.ref (ad 0 0 0)] σ (qV Q) := by
  unfold d6_readStone at h
  refine z_MC [(0, .ref (ad 0 0 0))] (by decide +kernel) rfl (Nat.le_of_ble_eq_true rfl) ?_
  intro E hG hl X
  replace X : zFX ad E cX6_readStone 3 RX6 none 2 43 := X
  refine zr_aload_n X (x_dr DX6_readStone 0 rfl) 0 rfl rfl ?_
  refine zcl6_faultOfStone X (zk6_faultOfStone h) rfl ml_6_96 ⟨Nat.le_of_ble_eq_true rfl, Nat.le_of_ble_eq_true rfl⟩ (Nat.le_of_ble_eq_true rfl) (x_dr DX6_readStone 1 rfl) (fun v2 s1 h => ?_)
  refine zr_iconst (v := (-1)) X (x_dr DX6_readStone 2 rfl) (by decide) ?_
  obtain ⟨j8, ej8, h⟩ := x_jn h
  have Jj8 : ∀ (v6 : Int32) (s7 : xSt), j8 v6 s7 → zKK ad E (qV Q) 19 ([(0, .ref (ad 0 0 0))]) [.int v6] s7 := by
    intro v6 s7 h
    rw [ej8] at h
    refine zr_istore_n X ([(1, .int v6), (0, .ref (ad 0 0 0))]) (x_dr DX6_readStone 9 rfl) rfl (by decide) rfl ?_
    refine zr_iconst (v := 0) X (x_dr DX6_readStone 10 rfl) (by decide) ?_
    refine zr_istore_n X ([(2, .int 0), (1, .int v6), (0, .ref (ad 0 0 0))]) (x_dr DX6_readStone 11 rfl) rfl (by decide) rfl ?_
    refine zr_norm X [2, 1, 0] ([(0, .ref (ad 0 0 0)), (1, .int v6), (2, .int 0)]) rfl ?_
    refine zw6_readStone_L22 X  _ _ _ h (fun s21 h => ?_)
    exact zr_vret X rfl (x_dr DX6_readStone 32 rfl) ⟨rfl, h⟩
  refine zr_icmp_ne X 18 (x_dr DX6_readStone 3 rfl) (by decide) (fun c22 => ?_) (fun c22 => ?_)
  · replace h := h.1 c22
    refine zr_iconst (v := 0) X (x_dr DX6_readStone 8 rfl) (by decide) ?_
    refine zr_norm X [0] ([(0, .ref (ad 0 0 0))]) rfl ?_
    exact Jj8 _ _ h
  · replace h := h.2 c22
    refine zr_aload_n X (x_dr DX6_readStone 4 rfl) 0 rfl rfl ?_
    refine zgf_6_14 X rfl (x_dr DX6_readStone 5 rfl) ?_
    refine zcl5_size X (zk5_size rfl h) rfl ml_6_89 ⟨Nat.le_of_ble_eq_true rfl, Nat.le_of_ble_eq_true rfl⟩ (Nat.le_of_ble_eq_true rfl) (x_dr DX6_readStone 6 rfl) (fun v24 s23 h => ?_)
    refine zr_goto X 19 (x_dr DX6_readStone 7 rfl) (by decide) ?_
    refine zr_norm X [0] ([(0, .ref (ad 0 0 0))]) rfl ?_
    exact Jj8 _ _ h
