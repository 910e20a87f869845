-- rows of the constructors: a world that grows behind the address n, the object at h0 being made
def zAA (U : State) : Prop := (Cond.arrayOver (.array .int)).before #[] U = true
set_option maxHeartbeats 4000000 in
theorem zAA.use {A : Array Value} {U : State} (h : zAA U) : (Cond.arrayOver (.array .int)).before A U = true := h
set_option maxHeartbeats 4000000 in
theorem zAA.of {A : Array Value} {U : State} (h : (Cond.arrayOver (.array .int)).before A U = true) : zAA U := h
set_option maxHeartbeats 4000000 in
theorem zAA.moved {u U : State} (hvm : u.vm.Alike U.vm) (h : zAA u) : zAA U := by
  unfold zAA Cond.before at h
  obtain ⟨comp, c, k, h1, h2, h3, h4, h5⟩ := arrayOverA_spec h
  obtain ⟨k', hk', he⟩ := hvm.2.2 _ _ h3
  have hi : (U.vm.classes.findIdx? fun (x : Class) => match x.kind with | .array component _ => component == comp | _ => false) = some c := by
    refine (va_idx_bare U.vm comp).symm.trans ?_
    first | rw [hvm.bare_eq] | rw [← hvm.bare_eq]
    exact (va_idx_bare u.vm comp).trans h2
  have hkind : k'.kind = .array comp (.array .int) := by rw [he]; exact h4
  have f1 : U.vm.findClass (FieldType.array .int).toString = some comp := by rw [hvm.findClass]; exact h1
  have f2 : U.vm.findClass ("[" ++ (FieldType.array .int).toString) = some c := by rw [hvm.findClass]; exact h5
  unfold zAA Cond.before Cond.holds
  simp only [Cond.value]
  rw [f1, Option.bind_some]
  refine (congrArg (fun o : Option Nat => (o.bind (fun c => (U.vm.classes[c]?).map fun (k : Class) => match k.kind with | .array _ ty => decide (ty = FieldType.array .int) && decide (U.vm.findClass ("[" ++ (FieldType.array .int).toString) = some c) | _ => false) == some true)) hi).trans ?_
  simp [hk', hkind, f2]
def cV (G : xG) (A : Nat → Prop) (U : State) (H : Heap) : Prop := xV G A U H ∧ va_AO "WoodliceSenate$Sheet" U ∧ zAA U
set_option maxHeartbeats 4000000 in
theorem cV.kept {G : xG} {A : Nat → Prop} {U : State} {H H1 : Heap} (h : cV G A U H) (hq : ∀ a : Nat, a < H.size → ¬ A a → H1[a]? = H[a]?) : cV G A U H1 := ⟨h.1.kept hq, h.2⟩
set_option maxHeartbeats 4000000 in
theorem cV.narrow {G : xG} {A B : Nat → Prop} {U : State} {H : Heap} (h : cV G A U H) (hAB : ∀ q, B q → A q) : cV G B U H := ⟨h.1.narrow hAB, h.2⟩
set_option maxHeartbeats 4000000 in
theorem cV.warm {G : xG} {A : Nat → Prop} {s U : State} {H : Heap} (hW : s.WarmedH U.vm) (h : cV G A s H) : cV G A U H := ⟨h.1.warm hW, h.2.1.moved hW.alike, h.2.2.moved hW.alike⟩
set_option maxHeartbeats 4000000 in
theorem cV.same {G : xG} {A : Nat → Prop} {s U : State} {H : Heap} (hv : s.vm = U.vm) (h : cV G A s H) : cV G A U H := by
  have ha : s.vm.Alike U.vm := by rw [hv]; exact Vm.Alike.refl _
  exact ⟨h.1.same hv, h.2.1.moved ha, h.2.2.moved ha⟩
def cA (h0 n : Nat) : Nat → Prop := fun q => q = h0 ∨ n ≤ q
def cP (G : xG) (ci h0 n : Nat) (fs : List Value) (av : List Value) : Array Value → State → Prop := va_Pc av (fun U => U.heap.size = n ∧ h0 < n ∧ va_at G.1 x_cls (h0, .inr (ci, fs)) U.heap ∧ cV G (cA h0 n) U U.heap)
/-- the new object, and the rows behind it -/
def cD (G : xG) (ci h0 n : Nat) (rows : Nat → va_E) (fs : List Value) (r : Nat) : Heap → Prop := fun H => va_at G.1 x_cls (h0, .inr (ci, fs)) H ∧ ∀ k, k < r → va_at G.1 x_cls (n + k, rows k) H
def cQ (Wd : Heap → Prop) (h0 n r : Nat) : Array Value → State → Outcome → State → Prop := fun _ st oc t => oc = .returned none ∧ t.heap.size = n + r ∧ Wd t.heap ∧ va_F (cA h0 n) st t
/-- a constructor's contract -/
def CC (G : xG) (l : Launch) (y : MethodName) (cc : ByteArray) (nL fr lo ci h0 n : Nat) (av : List Value) (Wd : Heap → Prop) (fs0 : List Value) (r sl : Nat) : Prop :=
  Met l y (.code y cc nL none :: x_big) { frames := fr, cells := r, slots := sl, locals := lo } (cP G ci h0 n fs0 (.ref h0 :: av)) (cQ Wd h0 n r) r sl (cA h0 n)
abbrev eK (E : xE) : Nat := E.2.2.2.2.2.2.2.2.2.2.1.2.2.1
abbrev eN (E : xE) : Nat := E.2.2.2.2.2.2.2.2.2.2.1.2.2.2
def CX (E : xE) (cc : ByteArray) (nL : Nat) (own : String) (fr lo h0 n : Nat) : Prop := match E with
  | (p, _, _, R, s, m, args, below, meth, c, (Z, A, k, nn), G) => p.tables.exec = Jvm.exec ∧ c.code = cc ∧ c.maxLocals = nL ∧ s.vm.findClass own = some m.cls ∧ (∀ w ∈ x_big, w.before args s = true) ∧ cV G A s s.heap ∧ meth.sig.returnType = none ∧ meth.name = "<init>" ∧ meth.locks = false ∧ fr ≤ R.frames ∧ lo ≤ R.locals ∧ k ≤ R.cells ∧ nn ≤ R.slots ∧ A = cA h0 n ∧ s.heap.size = n ∧ h0 < n
def cW (G : xG) (ci h0 n : Nat) (rows : Nat → va_E) (fs : List Value) (r : Nat) (H : Heap) : Prop := H.size = n + r ∧ va_at G.1 x_cls (h0, .inr (ci, fs)) H ∧ ∀ k, k < r → va_at G.1 x_cls (n + k, rows k) H
def JC (E : xE) (ci h0 n : Nat) (rows : Nat → va_E) (pc : Nat) (L : List (Nat × Value)) (st : List Value) (fs : List Value) (r cl sl : Nat) : Prop := match E with
  | (p, l, e, R, s, m, args, below, meth, c, (Z, A, _, _), G) => ∀ (H : Heap) (locs : List Loc) (ls : Array Slot), lv_has ls c.maxLocals L → cW G ci h0 n rows fs r H → va_S A s.heap H locs → W p l e R s m args below meth c H locs cl sl (Z (fun _ _ => True)) (F0 m pc ls st)
set_option maxHeartbeats 4000000 in
theorem cW.more {G : xG} {ci h0 n : Nat} {rows : Nat → va_E} {fs : List Value} {r d : Nat} {H H1 : Heap} (h : cW G ci h0 n rows fs r H) (hz : H1.size = n + (r + d)) (hq : ∀ q, q < H.size → H1[q]? = H[q]?) (hr : ∀ k, k < d → va_at G.1 x_cls (n + (r + k), rows (r + k)) H1) : cW G ci h0 n rows fs (r + d) H1 := by
  refine ⟨hz, h.2.1.kept (hq _ h.2.1.lt), fun k hk => ?_⟩
  rcases Nat.lt_or_ge k r with c | c
  · exact (h.2.2 k c).kept (hq _ (h.2.2 k c).lt)
  · have g := hr (k - r) (by omega)
    rw [show r + (k - r) = k by omega] at g
    exact g
set_option maxHeartbeats 4000000 in
theorem va_S.more {A : Nat → Prop} {H0 H H1 : Heap} {locs : List Loc} (h : va_S A H0 H locs) (hz : H.size ≤ H1.size) (hq : ∀ q, q < H.size → H1[q]? = H[q]?) : va_S A H0 H1 locs := ⟨Nat.le_trans h.1 hz, fun x h1 h2 => (hq x (Nat.lt_of_lt_of_le h1 h.1)).trans (h.2.1 x h1 h2), h.2.2⟩
set_option maxHeartbeats 4000000 in
theorem z_outer (c : ClassId) (N h0 : Nat) : ∀ i : Nat, Jvm.Free.Multi.outerC c N h0 i = arrV c N (fun j => va_rf (if j < i then some (h0 + 1 + j) else none))
  | 0 => by
    show ({ cls := c, slots := Array.replicate N .null, vm := .none } : Cell) = _
    rw [arrV_new]
    refine congrArg (arrV c N) (funext fun j => ?_)
    simp [va_rf]
  | i + 1 => by
    show (Jvm.Free.Multi.outerC c N h0 i).setSlot i (.ref (h0 + 1 + i)) = _
    rw [z_outer c N h0 i, arrV_store]
    refine congrArg (arrV c N) (funext fun j => ?_)
    by_cases e : j = i
    · subst e
      simp [updV, va_rf]
    · by_cases h : j < i
      · simp [updV, e, h, Nat.lt_succ_of_lt h]
      · simp [updV, e, h, show ¬ j < i + 1 by omega]
section XJ
variable {E : xE} {cc : ByteArray} {nL fr lo ci h0 n : Nat} {own : String} {rows : Nat → va_E} {pc : Nat} {L : List (Nat × Value)} {st fs : List Value} {r cl sl : Nat}
set_option maxHeartbeats 4000000 in
theorem j_aload_n (X : CX E cc nL own fr lo h0 n) {k : Fin 4} {i : Nat} {x : Nat} (hd : decode cc pc = .ok (.aload_n k, 1)) (q : Nat) (hi : (k : Nat) = i) (hl : L[q]? = some (i, .ref x)) (kk : JC E ci h0 n rows (pc + 1) L (.ref x :: st) fs r cl sl) : JC E ci h0 n rows pc L st fs r cl sl := by
  obtain ⟨p, l, e, R, s, m, args, below, meth, c9, ⟨Z, A, k9, n9⟩, G⟩ := E
  intro H locs ls h1 h2 h3
  exact lv_aload_n X.1 X.2.1 hd hi (lv_at h1 q hl) (kk H locs ls h1 h2 h3)
set_option maxHeartbeats 4000000 in
theorem j_iload_n (X : CX E cc nL own fr lo h0 n) {k : Fin 4} {i : Nat} {x : Int32} (hd : decode cc pc = .ok (.iload_n k, 1)) (q : Nat) (hi : (k : Nat) = i) (hl : L[q]? = some (i, .int x)) (kk : JC E ci h0 n rows (pc + 1) L (.int x :: st) fs r cl sl) : JC E ci h0 n rows pc L st fs r cl sl := by
  obtain ⟨p, l, e, R, s, m, args, below, meth, c9, ⟨Z, A, k9, n9⟩, G⟩ := E
  intro H locs ls h1 h2 h3
  exact lv_iload_n X.1 X.2.1 hd hi (lv_at h1 q hl) (kk H locs ls h1 h2 h3)
set_option maxHeartbeats 4000000 in
theorem j_istore_n (X : CX E cc nL own fr lo h0 n) {k : Fin 4} {i : Nat} {x : Int32} (L1 : List (Nat × Value)) (hd : decode cc pc = .ok (.istore_n k, 1)) (hi : (k : Nat) = i) (hn : i < nL) (hl : (i, Value.int x) :: L.filter (fun q => !(q.1 == i) && !(q.1 + 1 == i && q.2.category == 2)) = L1) (kk : JC E ci h0 n rows (pc + 1) L1 st fs r cl sl) : JC E ci h0 n rows pc L (.int x :: st) fs r cl sl := by
  obtain ⟨p, l, e, R, s, m, args, below, meth, c9, ⟨Z, A, k9, n9⟩, G⟩ := E
  intro H locs ls h1 h2 h3
  exact lv_istore_n X.1 X.2.1 hd hi h1 (by rw [X.2.2.1]; exact hn) hl (fun ls1 g1 => kk H locs ls1 g1 h2 h3)
set_option maxHeartbeats 4000000 in
theorem j_iinc (X : CX E cc nL own fr lo h0 n) {i : Nat} {d : Int} {x v : Int32} (L1 : List (Nat × Value)) (k : Nat) (hd : decode cc pc = .ok (.iinc i d, 3)) (hk : L[k]? = some (i, .int x)) (hv : x + Int32.ofInt d = v) (hn : i < nL) (hl : (i, Value.int v) :: L.filter (fun q => !(q.1 == i) && !(q.1 + 1 == i && q.2.category == 2)) = L1) (kk : JC E ci h0 n rows (pc + 3) L1 st fs r cl sl) : JC E ci h0 n rows pc L st fs r cl sl := by
  obtain ⟨p, l, e, R, s, m, args, below, meth, c9, ⟨Z, A, k9, n9⟩, G⟩ := E
  intro H locs ls h1 h2 h3
  exact lv_iinc X.1 X.2.1 hd h1 hk hv (by rw [X.2.2.1]; exact hn) hl (fun ls1 g1 => kk H locs ls1 g1 h2 h3)
set_option maxHeartbeats 4000000 in
theorem j_norm (ks : List Nat) (L1 : List (Nat × Value)) (hl : lv_pick L ks = L1) (kk : JC E ci h0 n rows pc L1 st fs r cl sl) : JC E ci h0 n rows pc L st fs r cl sl := by
  obtain ⟨p, l, e, R, s, m, args, below, meth, c9, ⟨Z, A, k9, n9⟩, G⟩ := E
  intro H locs ls h1 h2 h3
  exact kk H locs ls (lv_sub h1 ks hl) h2 h3
set_option maxHeartbeats 4000000 in
theorem j_iconst (X : CX E cc nL own fr lo h0 n) {d : Int} {v : Int32} (hd : decode cc pc = .ok (.iconst d, 1)) (hv : Int32.ofInt d = v) (kk : JC E ci h0 n rows (pc + 1) L (.int v :: st) fs r cl sl) : JC E ci h0 n rows pc L st fs r cl sl := by
  obtain ⟨p, l, e, R, s, m, args, below, meth, c9, ⟨Z, A, k9, n9⟩, G⟩ := E
  intro H locs ls h1 h2 h3
  exact lv_iconst X.1 X.2.1 hd hv (kk H locs ls h1 h2 h3)
set_option maxHeartbeats 4000000 in
theorem j_bipush (X : CX E cc nL own fr lo h0 n) {d : Int} {v : Int32} (hd : decode cc pc = .ok (.bipush d, 2)) (hv : (Int8.ofInt d).toInt32 = v) (kk : JC E ci h0 n rows (pc + 2) L (.int v :: st) fs r cl sl) : JC E ci h0 n rows pc L st fs r cl sl := by
  obtain ⟨p, l, e, R, s, m, args, below, meth, c9, ⟨Z, A, k9, n9⟩, G⟩ := E
  intro H locs ls h1 h2 h3
  exact lv_bipush X.1 X.2.1 hd hv (kk H locs ls h1 h2 h3)
set_option maxHeartbeats 4000000 in
theorem j_sipush (X : CX E cc nL own fr lo h0 n) {d : Int} {v : Int32} (hd : decode cc pc = .ok (.sipush d, 3)) (hv : (Int16.ofInt d).toInt32 = v) (kk : JC E ci h0 n rows (pc + 3) L (.int v :: st) fs r cl sl) : JC E ci h0 n rows pc L st fs r cl sl := by
  obtain ⟨p, l, e, R, s, m, args, below, meth, c9, ⟨Z, A, k9, n9⟩, G⟩ := E
  intro H locs ls h1 h2 h3
  exact lv_sipush X.1 X.2.1 hd hv (kk H locs ls h1 h2 h3)
set_option maxHeartbeats 4000000 in
theorem j_goto (X : CX E cc nL own fr lo h0 n) {off : Int} (tgt : Nat) (hd : decode cc pc = .ok (.goto off, 3)) (ht : (pc : Int) + off = (tgt : Int)) (kk : JC E ci h0 n rows tgt L st fs r cl sl) : JC E ci h0 n rows pc L st fs r cl sl := by
  obtain ⟨p, l, e, R, s, m, args, below, meth, c9, ⟨Z, A, k9, n9⟩, G⟩ := E
  intro H locs ls h1 h2 h3
  exact lv_goto X.1 X.2.1 hd ht (kk H locs ls h1 h2 h3)
set_option maxHeartbeats 4000000 in
theorem j_icmp_ge (X : CX E cc nL own fr lo h0 n) {x y : Int32} {off : Int} (tgt : Nat) (hd : decode cc pc = .ok (.if_icmp .ge off, 3)) (ht : (pc : Int) + off = (tgt : Int)) (kt : y ≤ x → JC E ci h0 n rows tgt L st fs r cl sl) (kf : ¬ y ≤ x → JC E ci h0 n rows (pc + 3) L st fs r cl sl) : JC E ci h0 n rows pc L (.int y :: .int x :: st) fs r cl sl := by
  obtain ⟨p, l, e, R, s, m, args, below, meth, c9, ⟨Z, A, k9, n9⟩, G⟩ := E
  intro H locs ls h1 h2 h3
  exact lv_icmp_ge X.1 X.2.1 hd ht (fun q => kt q H locs ls h1 h2 h3) (fun q => kf q H locs ls h1 h2 h3)
set_option maxHeartbeats 4000000 in
theorem j_mmax (X : CX E cc nL own fr lo h0 n) {index : Nat} (w1 : Cond.methodLink own index Lib.Math.max.name ∈ x_big) (hr : 1 ≤ fr ∧ (st.map fun v => v.category).sum + 13 ≤ lo) (hc : cl ≤ eK E) (hs : sl ≤ eN E) {x y : Int32} (hd : decode cc pc = .ok (.invokestatic index, 3)) (kk : JC E ci h0 n rows (pc + 3) L (.int (if x < y then y else x) :: st) fs r cl sl) : JC E ci h0 n rows pc L (.int y :: .int x :: st) fs r cl sl := by
  obtain ⟨p, l, e, R, s, m, args, below, meth, c9, ⟨Z, A, k9, n9⟩, G⟩ := E
  intro H locs ls h1 h2 h3
  obtain ⟨hx, hb, hml, hown, hts, hV, hrt, hin, hlk, g1, g2, g3, g4, hA, hz, hlt⟩ := X
  exact va_mmax hx hb h1.1.symm hown (hts _ w1) (hts _ ms_max) (hts _ mn_Math) (hts _ mc_max) (Nat.le_trans hr.1 g1) (Nat.le_trans hr.2 g2) (Nat.le_trans hc g3) (Nat.le_trans hs g4) hd (kk H locs ls h1 h2 h3)
set_option maxHeartbeats 4000000 in
theorem j_super (X : CX E cc nL own fr lo h0 n) {index a : Nat} (w1 : Cond.methodLink own index objectInit ∈ x_big) (hr : 1 ≤ fr ∧ (st.map fun v => v.category).sum + 12 ≤ lo) (hd : decode cc pc = .ok (.invokespecial index, 3)) (kk : JC E ci h0 n rows (pc + 3) L st fs r cl sl) : JC E ci h0 n rows pc L (.ref a :: st) fs r cl sl := by
  obtain ⟨p, l, e, R, s, m, args, below, meth, c9, ⟨Z, A, k9, n9⟩, G⟩ := E
  intro H locs ls h1 h2 h3
  obtain ⟨hx, hb, hml, hown, hts, hV, hrt, hin, hlk, g1, g2, g3, g4, hA, hz, hlt⟩ := X
  exact W.objInit hx hb hown (hts _ w1) (hts _ mi_object) (hts _ mc_init) rfl h1.1 rfl hd (Nat.le_trans hr.1 g1) (by show 2 * 0 + _ + 12 ≤ _; have := Nat.le_trans hr.2 g2; omega) (kk H locs ls h1 h2 h3)
set_option maxHeartbeats 4000000 in
set_option maxRecDepth 100000 in
theorem j_newi (X : CX E cc nL own fr lo h0 n) {m : Nat} {v : Int32} (hd : decode cc pc = .ok (.newarray .int, 2)) (hv : v = nI m) (hm : m ≤ 1000) (hr : rows r = .inl ((eG E).2.1, m, .inl (fun _ => 0))) (hc : cl + 1 ≤ eK E) (hs : sl + m ≤ eN E) (kk : JC E ci h0 n rows (pc + 2) L (.ref (n + r) :: st) fs (r + 1) (cl + 1) (sl + m)) : JC E ci h0 n rows pc L (.int v :: st) fs r cl sl := by
  obtain ⟨p, l, e, R, s, m9, args, below, meth, c9, ⟨Z, A, k9, n9⟩, G⟩ := E
  intro H locs ls h1 h2 h3
  obtain ⟨hx, hb, hml, hown, hts, hV, hrt, hin, hlk, g1, g2, g3, g4, hA, hz, hlt⟩ := X
  have hv1 : ¬ v < 0 := by rw [hv]; exact nI_pos (by omega)
  have hv2 : v.toNatClampNeg = m := by rw [hv]; exact nI_clamp (by omega)
  refine va_newaK (atype := .int) hx hb (hts _ (x_mm (x_t1 (List.mem_of_getElem? (i := 35) rfl)) rfl)) rfl hd rfl hv1 hv2 (by show m * 4 ≤ 536870912; omega) (Nat.le_trans hc g3) (Nat.le_trans hs g4) h2.1 fun H1 c1 e1 z1 o1 hAr hNm => ?_
  have ec : c1 = G.2.1 := Option.some.inj (hNm.symm.trans (hV.1.1.2 0 (G.2.1, .int) rfl).2)
  subst ec
  exact kk H1 locs ls h1 (h2.more (d := 1) (by omega) (fun q hq => o1 q (by rw [← h2.1]; exact hq)) (fun k hk => by
    have : k = 0 := by omega
    subst this
    show va_at G.1 x_cls (n + r, rows r) H1
    rw [hr]; exact e1)) (h3.more (by rw [z1, h2.1]; omega) (fun q hq => o1 q (by rw [← h2.1]; exact hq)))
set_option maxHeartbeats 4000000 in
set_option maxRecDepth 100000 in
theorem j_newz (X : CX E cc nL own fr lo h0 n) {m : Nat} {v : Int32} (hd : decode cc pc = .ok (.newarray .boolean, 2)) (hv : v = nI m) (hm : m ≤ 1000) (hr : rows r = .inl ((eG E).2.2.1, m, .inl (fun _ => 0))) (hc : cl + 1 ≤ eK E) (hs : sl + m ≤ eN E) (kk : JC E ci h0 n rows (pc + 2) L (.ref (n + r) :: st) fs (r + 1) (cl + 1) (sl + m)) : JC E ci h0 n rows pc L (.int v :: st) fs r cl sl := by
  obtain ⟨p, l, e, R, s, m9, args, below, meth, c9, ⟨Z, A, k9, n9⟩, G⟩ := E
  intro H locs ls h1 h2 h3
  obtain ⟨hx, hb, hml, hown, hts, hV, hrt, hin, hlk, g1, g2, g3, g4, hA, hz, hlt⟩ := X
  have hv1 : ¬ v < 0 := by rw [hv]; exact nI_pos (by omega)
  have hv2 : v.toNatClampNeg = m := by rw [hv]; exact nI_clamp (by omega)
  refine va_newaK (atype := .boolean) hx hb (hts _ (x_mm (x_t1 (List.mem_of_getElem? (i := 144) rfl)) rfl)) rfl hd rfl hv1 hv2 (by show m * 1 ≤ 536870912; omega) (Nat.le_trans hc g3) (Nat.le_trans hs g4) h2.1 fun H1 c1 e1 z1 o1 hAr hNm => ?_
  have ec : c1 = G.2.2.1 := Option.some.inj (hNm.symm.trans (hV.1.1.2 1 (G.2.2.1, .boolean) rfl).2)
  subst ec
  exact kk H1 locs ls h1 (h2.more (d := 1) (by omega) (fun q hq => o1 q (by rw [← h2.1]; exact hq)) (fun k hk => by
    have : k = 0 := by omega
    subst this
    show va_at G.1 x_cls (n + r, rows r) H1
    rw [hr]; exact e1)) (h3.more (by rw [z1, h2.1]; omega) (fun q hq => o1 q (by rw [← h2.1]; exact hq)))
set_option maxHeartbeats 4000000 in
theorem j_newq (X : CX E cc nL own fr lo h0 n) {index : Nat} (w1 : Cond.classLink own index RX3 ∈ x_big) (hd : decode cc pc = .ok (.anewarray index, 3)) (hr : rows r = .inl ((eG E).2.2.2.1, 4, .inr (.inr (.inr (.inr (fun _ => none)))))) (hc : cl + 1 ≤ eK E) (hs : sl + 4 ≤ eN E) (kk : JC E ci h0 n rows (pc + 3) L (.ref (n + r) :: st) fs (r + 1) (cl + 1) (sl + 4)) : JC E ci h0 n rows pc L (.int 4 :: st) fs r cl sl := by
  obtain ⟨p, l, e, R, s, m9, args, below, meth, c9, ⟨Z, A, k9, n9⟩, G⟩ := E
  intro H locs ls h1 h2 h3
  obtain ⟨hx, hb, hml, hown, hts, hV, hrt, hin, hlk, g1, g2, g3, g4, hA, hz, hlt⟩ := X
  refine W.anew hx hb hown (hts _ w1) (va_AO.use hV.2.1) rfl hd rfl (by decide) (by decide) (Nat.le_trans hc g3) (Nat.le_trans hs g4) fun c1 kA comp f1 f2 f3 f4 => ?_
  obtain ⟨kA', comp', t1, t2, t3, t4⟩ := (hV.1.1.2 2 (G.2.2.2.1, .object "WoodliceSenate$Sheet") rfl).2
  have ec : c1 = G.2.2.2.1 := Option.some.inj (f1.symm.trans t4)
  subst ec
  generalize hH1 : H.push ({ cls := G.2.2.2.1, slots := Array.replicate (4 : Int32).toNatClampNeg .null, vm := .none } : Cell) = H1
  have z1 : H1.size = H.size + 1 := by rw [← hH1, Array.size_push]
  have e1 : H1[H.size]? = some (arrV G.2.2.2.1 (4 : Int32).toNatClampNeg (fun _ => .null)) := by rw [← hH1, Array.getElem?_push_size, ← arrV_new]
  have o1 : ∀ q : Nat, q < H.size → H1[q]? = H[q]? := fun q hq => by rw [← hH1, Array.getElem?_push, if_neg (Nat.ne_of_lt hq)]
  have hs := h2.1
  rw [hs] at e1 ⊢
  exact kk H1 locs ls h1 (h2.more (d := 1) (by omega) o1 (fun k hk => by
    have : k = 0 := by omega
    subst this
    show va_at G.1 x_cls (n + r, rows r) H1
    rw [hr]; exact e1)) (h3.more (by omega) o1)
set_option maxHeartbeats 4000000 in
set_option maxRecDepth 100000 in
theorem j_mna (X : CX E cc nL own fr lo h0 n) {index m : Nat} {v w : Int32} (w1 : Cond.classLink own index "[[I" ∈ x_big) (hd : decode cc pc = .ok (.multianewarray index 2, 4)) (hv : v = nI 20) (hw : w = nI m) (hm : m ≤ 1000) (hr : rows r = .inl ((eG E).2.2.2.2, 20, .inr (.inr (.inr (.inr (fun j => if j < 20 then some (n + r + 1 + j) else none)))))) (hr2 : ∀ j, j < 20 → rows (r + 1 + j) = .inl ((eG E).2.1, m, .inl (fun _ => 0))) (hc : cl + 21 ≤ eK E) (hs : sl + (20 + 20 * m) ≤ eN E) (kk : JC E ci h0 n rows (pc + 4) L (.ref (n + r) :: st) fs (r + 21) (cl + 21) (sl + (20 + 20 * m))) : JC E ci h0 n rows pc L (.int w :: .int v :: st) fs r cl sl := by
  obtain ⟨p, l, e, R, s, m9, args, below, meth, c9, ⟨Z, A, k9, n9⟩, G⟩ := E
  intro H locs ls h1 h2 h3
  obtain ⟨hx, hb, hml, hown, hts, hV, hrt, hin, hlk, g1, g2, g3, g4, hA, hz, hlt⟩ := X
  have hv1 : ¬ v < 0 := by rw [hv]; exact nI_pos (by omega)
  have hv2 : v.toNatClampNeg = 20 := by rw [hv]; exact nI_clamp (by omega)
  have hw1 : ¬ w < 0 := by rw [hw]; exact nI_pos (by omega)
  have hw2 : w.toNatClampNeg = m := by rw [hw]; exact nI_clamp (by omega)
  have g3 := Nat.le_trans hc g3
  have g4 := Nat.le_trans hs g4
  intro T hT Xs
  obtain ⟨vm₁, c1, comp, -, fA, fC, hO, -, X', step⟩ := Xs.multianewarray2F (ty := .int) hx hown (hts _ w1) (zAA.use hV.2.2) (hts _ (x_mm (x_t1 (List.mem_of_getElem? (i := 35) rfl)) rfl)) (g := F0 m9 pc ls (.int w :: .int v :: st)) rfl (by rw [hb]; exact hd) rfl hv1 hw1 (by rw [hv2]; decide) (by rw [hw2]; show m * 4 ≤ 536870912; omega) (by rw [hw2]; omega) rfl rfl (by rw [hv2]; exact g3) (by rw [hv2, hw2]; exact g4)
  rw [hv2, hw2] at X' step
  have ea : c1 = G.2.2.2.2 := Option.some.inj (fA.symm.trans (hV.1.1.2 3 (G.2.2.2.2, .array .int) rfl).2)
  have ei : comp = G.2.1 := Option.some.inj (fC.symm.trans (hV.1.1.2 0 (G.2.1, .int) rfl).2)
  subst ea ei
  generalize hF : Jvm.Free.Multi.fill (T.setVm vm₁) G.2.2.2.2 G.2.1 20 m (defaultValue .int) 20 = F at X' step
  have hTh : (T.setVm vm₁).heap = H := hT
  obtain ⟨f1, f2, -, -⟩ := Jvm.Free.Multi.fill_facts (T.setVm vm₁) G.2.2.2.2 G.2.1 20 m (defaultValue .int) 20
  rw [hF, hTh] at f1 f2
  have hold : ∀ x : Nat, x < H.size → F.heap[x]? = H[x]? := fun x hx => by
    have := Jvm.Free.Multi.fill_old (T.setVm vm₁) G.2.2.2.2 G.2.1 20 m (defaultValue .int) (a := x) (by rw [hTh]; exact hx) 20
    rw [hF, hTh] at this
    exact this
  have hrow : ∀ j : Nat, j < 20 → F.heap[H.size + 1 + j]? = some (vp_cell G.2.1 (m, .inl (fun _ => 0))) := fun j hj => by
    have := Jvm.Free.Multi.fill_inner (T.setVm vm₁) G.2.2.2.2 G.2.1 20 m (defaultValue .int) 20 j hj
    rw [hF, hTh] at this
    rw [this, vp_cell_i, ← arrV_new]
    rfl
  have hout : Jvm.Free.Multi.outerC G.2.2.2.2 20 H.size 20 = vp_cell G.2.2.2.2 (20, .inr (.inr (.inr (.inr (fun i => if i < 20 then some (H.size + 1 + i) else none))))) := by
    rw [vp_cell_q]
    exact z_outer G.2.2.2.2 20 H.size 20
  rw [hout] at f2
  have hsz := h2.1
  have key := kk F.heap locs ls h1 (h2.more (d := 21) (by omega) hold (fun k hk => by
    rcases Nat.eq_zero_or_pos k with c | c
    · subst c
      show va_at G.1 x_cls (n + r, rows r) F.heap
      rw [hr, ← hsz]; exact f2
    · have e1 : r + k = r + 1 + (k - 1) := by omega
      rw [e1, hr2 (k - 1) (by omega)]
      have g := hrow (k - 1) (by omega)
      rw [hsz] at g
      show F.heap[n + (r + 1 + (k - 1))]? = _
      rw [show n + (r + 1 + (k - 1)) = n + r + 1 + (k - 1) by omega]
      exact g)) (h3.more (by omega) hold)
  obtain ⟨t, a1, b1⟩ := key F rfl (by
    rw [show cl + 21 = cl + 1 + 20 by omega, show sl + (20 + 20 * m) = sl + 20 + 20 * m by omega]
    exact X')
  refine ⟨t, step t ?_, b1⟩
  have e9 : T.heap.size = n + r := by rw [← hsz, ← hTh]; rfl
  rw [e9]
  exact a1
end XJ
