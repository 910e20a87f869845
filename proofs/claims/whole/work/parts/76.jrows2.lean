-- constructors: fields, calls, entry and end
set_option maxHeartbeats 4000000 in
theorem c_blind {G : xG} {ci h0 n : Nat} {fs av : List Value} : FrameBlind (cP G ci h0 n fs av) := fun a U g mk h => by
  obtain ⟨h0, h1, h2, h3, h4⟩ := h
  exact ⟨h0, h1, h2, h3, cV.same (s := U) (U := U.calling g mk a) rfl h4⟩
def CZ (E : xE) (Qc : Array Value → State → Outcome → State → Prop) : Prop := match E with
  | (_, _, _, _, s, _, args, below, _, _, (Z, A, k, nn), _) => Z = fun _ => MQ below Qc args s k nn A
set_option maxHeartbeats 4000000 in
theorem CC_of {G : xG} {l : Launch} {y : MethodName} {cc : ByteArray} {nL fr lo ci h0 n : Nat} {av : List Value} {Qc : Array Value → State → Outcome → State → Prop} {fs0 : List Value} {rows : Nat → va_E} {r sl : Nat} (L0 : List (Nat × Value)) (hy : plainName y.cls = true) (hy2 : y.name = "<init>") (hL : lv_args 0 (.ref h0 :: av) = L0) (hn : (lg_sl (.ref h0 :: av)).length ≤ nL)
    (body : ∀ E : xE, eG E = G → eL E = l → eK E = r → eN E = sl → CX E cc nL y.cls fr lo h0 n → CZ E Qc → JC E ci h0 n rows 0 L0 [] fs0 0 0 0) : Met l y (.code y cc nL none :: x_big) { frames := fr, cells := r, slots := sl, locals := lo } (cP G ci h0 n fs0 (.ref h0 :: av)) Qc r sl (cA h0 n) := by
  refine Met.ofW (cc := cc) (maxL := nL) (ret := none) hy rfl ?_
  intro p e s m args below meth c s₁ B hml hv
  obtain ⟨rfl, hsz, hlt, hO, hV⟩ := hv
  have hts := atoms_spec (ws := .code y cc nL none :: x_big) B.pre
  have hown : s.vm.findClass y.cls = some m.cls := findClass_of_methodNamed B.named
  have hin : meth.name = "<init>" := by rw [(name_of_methodNamed B.named B.method).1]; exact hy2
  have X : CX (p, l, e, (headSpec (.code y cc nL none :: x_big) { frames := fr, cells := r, slots := sl, locals := lo }).room, s, m, (Value.ref h0 :: av).toArray, below, meth, c, (fun _ => MQ below Qc (Value.ref h0 :: av).toArray s r sl (cA h0 n), cA h0 n, r, sl), G) cc nL y.cls fr lo h0 n :=
    ⟨B.exec, B.bytes, hml, hown, fun w h => hts w (List.mem_cons_of_mem _ h), hV, B.returns, hin, B.notSynchronized, Nat.le_refl _, Nat.le_refl _, Nat.le_refl _, Nat.le_refl _, rfl, hsz, hlt⟩
  have hl := lv_entry (.ref h0 :: av) (n := nL) hn
  rw [hL] at hl
  rw [lg_entry_eq]
  exact body _ rfl rfl rfl rfl X rfl s.heap [] _ (by rw [hml]; exact hl) ⟨hsz, hO, fun k hk => absurd hk (Nat.not_lt_zero k)⟩ va_S.rf
section XJ2
variable {E : xE} {cc : ByteArray} {nL fr lo ci h0 n : Nat} {own : String} {rows : Nat → va_E} {pc : Nat} {L : List (Nat × Value)} {st fs : List Value} {r cl sl : Nat}
set_option maxHeartbeats 4000000 in
theorem j_vret (X : CX E cc nL own fr lo h0 n) (XZ : CZ E (cQ (cD (eG E) ci h0 n rows fs r) h0 n r)) (hc : cl = eK E) (hs : sl = eN E) (hd : decode cc pc = .ok (.return_, 1)) : JC E ci h0 n rows pc L [] fs r cl sl := by
  obtain ⟨p, l, e, R, s, m, args, below, meth, c9, ⟨Z, A, k9, n9⟩, G⟩ := E
  intro H locs ls h1 h2 h3
  obtain ⟨hx, hb, hml, hown, hts, hV, hrt, hin, hlk, g1, g2, g3, g4, hA, hz, hlt⟩ := X
  have hc : cl = k9 := hc
  have hs : sl = n9 := hs
  subst hc hs
  have XZ : Z = fun _ => MQ below (cQ (cD G ci h0 n rows fs r) h0 n r) args s cl sl A := XZ
  subst XZ hA
  exact W.vret hx hb hrt (fun t ht hW => ⟨rfl, by rw [ht]; exact h2.1, by rw [ht]; exact ⟨h2.2.1, h2.2.2⟩, h3.F ht⟩) h3.2.2 hd hlk
set_option maxHeartbeats 4000000 in
theorem j_putF (X : CX E cc nL own fr lo h0 n) {T : u_T} {N index : Nat} (hcl : x_cls[ci]? = some (own, T, N)) (hin : ∀ w ∈ u_ws own T N, w ∈ x_big) (ty0 : Nat → FieldType) (hty : ∀ k, k < N → parseFieldDescriptor (T k).2.2.1 = some (ty0 k)) (hnm : ∀ a, a < N → ∀ b, b < N → a ≠ b → (T a).2.1 ≠ (T b).2.1) (k : Nat) (hk : k < N) (href : (T k).1 = own) (hlink : Cond.fieldLink own index own (T k).2.1 (T k).2.2.1 ∈ x_big) (hfin : (T k).2.2.2 = true) {ty : FieldType} {v : Value} (hdd : parseFieldDescriptor (T k).2.2.1 = some ty) (hn : narrow ty v = v) (hfit : fits ty v = true) (hl : k < fs.length) (hd : decode cc pc = .ok (.putfield index, 3)) (kk : JC E ci h0 n rows (pc + 3) L st (fs.set k v) r cl sl) : JC E ci h0 n rows pc L (v :: .ref h0 :: st) fs r cl sl := by
  obtain ⟨p, l, e, R, s, m, args, below, meth, c9, ⟨Z, A, k9, n9⟩, G⟩ := E
  intro H locs ls h1 h2 h3
  obtain ⟨hx, hb, hml, hown, hts, hV, hrt, hini, hlk, g1, g2, g3, g4, hA, hz, hlt⟩ := X
  have hK := hV.1.1
  have hap := va_apart (own := own) hts hin ty0 hty hnm hK hcl
  obtain ⟨rr, h1', cell, q1, q2, q3, q4⟩ := h2.2.1
  have hr : rr = (own, T, N) := Option.some.inj (h1'.symm.trans hcl)
  subst hr
  obtain ⟨hS, hfc, kC, hkC, hkind⟩ := hK.1 ci _ hcl
  obtain ⟨cf, kf, fi, f, hi, hsl⟩ := hS k hk
  have hlay := hts _ (hin _ (u_in_lay hk))
  unfold u_lay at hlay
  rw [if_pos hfin] at hlay
  have hst := (u_facts hfc hkC (u_lays hts hin hk) hi).1
  have hcf : m.cls = cf := by
    obtain ⟨_, _, c', _, _, _, -, -, hf', -, -, -, hown2, -⟩ := Cond.laysFinal_spec hlay
    have e1 : c' = cf := by have := hi.symm.trans hf'; simp at this; exact this.1.symm
    rw [href] at hown2
    rw [← e1]; exact Option.some.inj (hown.symm.trans hown2)
  have h6 := u_fits hfc hkC hkind (Or.inr hlay) hi hdd hn hfit
  have hi2 := hi
  rw [href] at hi2
  refine W.putFinK hx hb hown (hts _ hlink) hi2 hst hcf hini (by rw [q2]; exact h6) q1 q3 (by rw [hsl]; exact k2_hasslot (q4 k hk)) rfl rfl hd fun H' e1 e2 e3 => ?_
  rw [hsl] at e1 ⊢
  exact kk H' _ ls h1 ⟨e2.trans h2.1, ⟨_, hcl, t_OB.to (V := updV (vp_V fs) k v) ⟨_, e1, q2, q3, t_set q4 hap hk v⟩ (fun j _ => vp_updV_set hl v j)⟩, fun j hj => (h2.2.2 j hj).kept (e3 _ (by show n + j ≠ h0; omega))⟩ (h3.put e2 e3 (by rw [hA]; exact Or.inl rfl))
set_option maxHeartbeats 4000000 in
theorem j_put (X : CX E cc nL own fr lo h0 n) {T : u_T} {N index : Nat} (hcl : x_cls[ci]? = some (own, T, N)) (hin : ∀ w ∈ u_ws own T N, w ∈ x_big) (ty0 : Nat → FieldType) (hty : ∀ k, k < N → parseFieldDescriptor (T k).2.2.1 = some (ty0 k)) (hnm : ∀ a, a < N → ∀ b, b < N → a ≠ b → (T a).2.1 ≠ (T b).2.1) (k : Nat) (hk : k < N) (href : (T k).1 = own) (hlink : Cond.fieldLink own index own (T k).2.1 (T k).2.2.1 ∈ x_big) (hfin : (T k).2.2.2 = false) {ty : FieldType} {v : Value} (hdd : parseFieldDescriptor (T k).2.2.1 = some ty) (hn : narrow ty v = v) (hfit : fits ty v = true) (hl : k < fs.length) (hd : decode cc pc = .ok (.putfield index, 3)) (kk : JC E ci h0 n rows (pc + 3) L st (fs.set k v) r cl sl) : JC E ci h0 n rows pc L (v :: .ref h0 :: st) fs r cl sl := by
  obtain ⟨p, l, e, R, s, m, args, below, meth, c9, ⟨Z, A, k9, n9⟩, G⟩ := E
  intro H locs ls h1 h2 h3
  obtain ⟨hx, hb, hml, hown, hts, hV, hrt, hini, hlk, g1, g2, g3, g4, hA, hz, hlt⟩ := X
  have hK := hV.1.1
  have hap := va_apart (own := own) hts hin ty0 hty hnm hK hcl
  obtain ⟨rr, h1', cell, q1, q2, q3, q4⟩ := h2.2.1
  have hr : rr = (own, T, N) := Option.some.inj (h1'.symm.trans hcl)
  subst hr
  obtain ⟨hS, hfc, kC, hkC, hkind⟩ := hK.1 ci _ hcl
  obtain ⟨cf, kf, fi, f, hi, hsl⟩ := hS k hk
  have hlay := hts _ (hin _ (u_in_lay hk))
  unfold u_lay at hlay
  rw [if_neg (by rw [hfin]; decide)] at hlay
  have hst := (u_facts hfc hkC (u_lays hts hin hk) hi).1
  have h6 := u_store hfc hkC hkind hlay hi hdd hn hfit
  have hi2 := hi
  rw [href] at hi2
  refine W.putK hx hb (f := f) ⟨hown, hts _ hlink, ⟨_, _, _, hi2⟩, hst⟩ (by rw [q2]; exact h6) q1 q3 (by rw [hsl]; exact k2_hasslot (q4 k hk)) rfl rfl hd fun H' e1 e2 e3 => ?_
  rw [hsl] at e1 ⊢
  exact kk H' _ ls h1 ⟨e2.trans h2.1, ⟨_, hcl, t_OB.to (V := updV (vp_V fs) k v) ⟨_, e1, q2, q3, t_set q4 hap hk v⟩ (fun j _ => vp_updV_set hl v j)⟩, fun j hj => (h2.2.2 j hj).kept (e3 _ (by show n + j ≠ h0; omega))⟩ (h3.put e2 e3 (by rw [hA]; exact Or.inl rfl))
end XJ2
set_option maxHeartbeats 4000000 in
/-- behind the call of a constructor -/
theorem w_ctor {p : Program} {l : Launch} {e : Env} {R : Room} {s : State} {m : MethodId} {args : Array Value} {below : List Frame} {meth : Method} {c : Code} {H1 : Heap} {locs : List Loc} {c1 s1 r1 sl1 a pc : Nat} {ls : Array Slot} {st0 rest : List Value} {QQ : State → Prop} {A : Nat → Prop} {Wd : Heap → Prop} {av : Array Value} (hr : va_Run p l e R s m args below meth c H1 locs c1 s1 r1 sl1 (F0 m pc ls st0) rest (cQ Wd a (a + 1) r1 av) (cA a (a + 1))) (hA : ∀ q, a ≤ q → A q) (hS : va_S A s.heap H1 locs)
    (kk : ∀ (H2 : Heap) (locs2 : List Loc), H2.size = a + 1 + r1 → Wd H2 → (∀ q, q < H1.size → q < a → H2[q]? = H1[q]?) → va_S A s.heap H2 locs2 → W p l e R s m args below meth c H2 locs2 (c1 + r1) (s1 + sl1) QQ (F0 m (pc + 3) ls rest)) : W p l e R s m args below meth c H1 locs c1 s1 QQ (F0 m pc ls st0) := by
  intro T hT X
  obtain ⟨v, st₀, t, T', L, h0, X', hL, e1, e2, ⟨hv, hsz, hW, hz, hk⟩, stp⟩ := hr T hT X
  cases hv
  rw [h0] at hz hk
  have nA : ∀ q, cA a (a + 1) q → A q := fun q h => hA q (by rcases h with h | h <;> omega)
  obtain ⟨t2, a1, b1⟩ := kk T'.heap (locs ++ L) (by rw [e1]; exact hsz) (by rw [e1]; exact hW) (fun q h1 h2 => by rw [e1]; exact hk q h1 (fun h => by rcases h with h | h <;> omega))
    ⟨Nat.le_trans hS.1 (by rw [e1]; exact hz), fun q h1 h2 => by rw [e1, hk q (Nat.lt_of_lt_of_le h1 hS.1) (fun z => h2 (nA q z))]; exact hS.2.1 q h1 h2, fun q hq => by
      rcases List.mem_append.mp hq with h | h
      · exact hS.2.2 q h
      · exact nA _ (hL q h)⟩ T' rfl X'
  exact ⟨t2, stp t2 a1, b1⟩
section XJ3
variable {E : xE} {cc : ByteArray} {nL fr lo ci h0 n : Nat} {own : String} {rows : Nat → va_E} {pc : Nat} {L : List (Nat × Value)} {st fs : List Value} {r cl sl : Nat}
set_option maxHeartbeats 4000000 in
/-- new C(); C private to the nest -/
theorem j_sub (X : CX E cc nL own fr lo h0 n) {index index2 : Nat} {C host : String} {T1 : u_T} {N1 ci1 mL fr1 lo1 r1 sl1 : Nat} {y : MethodName} {b1 : ByteArray} {rows1 : Nat → va_E} {fs0 fs1 : List Value} (hcl1 : x_cls[ci1]? = some (C, T1, N1)) (hin1 : ∀ w ∈ u_ws C T1 N1, w ∈ x_big) (ty1 : Nat → FieldType) (hty1 : ∀ k, k < N1 → parseFieldDescriptor (T1 k).2.2.1 = some (ty1 k)) (w1 : Cond.classLink own index C ∈ x_big) (w2 : Cond.instantiable C N1 ∈ x_big) (w3 : Cond.initialized C ∈ x_big) (hfs : ∀ j, j < N1 → defaultValue (ty1 j) = vp_V fs0 j)
    (hm : CC (eG E) (eL E) y b1 mL fr1 lo1 ci1 (n + r) (n + r + 1) [] (cD (eG E) ci1 (n + r) (n + r + 1) rows1 fs1 r1) fs0 r1 sl1) (hyc : y.cls = C) (w4 : (own, index2, y, host) ∈ x_nm) (w5 : Cond.instanceMethod y ∈ x_big) (w6 : Cond.code y b1 mL none ∈ x_big) (hy : y.cls ≠ "java/lang/invoke/MethodHandle" ∧ y.cls ≠ "java/lang/invoke/VarHandle" ∧ (parseMethodDescriptor y.desc).map (fun d => d.parameters.length) = some 0) (hy1 : y.name = "<init>") (hr : fr1 + 1 ≤ fr ∧ 8 + (mL + 11) + lo1 ≤ lo) (hst : ((Value.ref (n + r) :: st).map fun v => v.category).sum ≤ 8)
    (hr0 : rows r = .inr (ci1, fs1)) (hr1 : ∀ k, k < r1 → rows (r + 1 + k) = rows1 k) (hc : cl + 1 + r1 ≤ eK E) (hs : sl + N1 + sl1 ≤ eN E)
    (d1 : decode cc pc = .ok (.new index, 3)) (d2 : decode cc (pc + 3) = .ok (.dup, 1)) (d3 : decode cc (pc + 3 + 1) = .ok (.invokespecial index2, 3))
    (kk : JC E ci h0 n rows (pc + 3 + 1 + 3) L (.ref (n + r) :: st) fs (r + 1 + r1) (cl + 1 + r1) (sl + N1 + sl1)) : JC E ci h0 n rows pc L st fs r cl sl := by
  obtain ⟨p, l, e, R, s, m, args, below, meth, c9, ⟨Z, A, k9, n9⟩, G⟩ := E
  intro H locs ls h1 h2 h3
  obtain ⟨hx, hb, hml, hown, hts, hV, hrt, hini, hlk, g1, g2, g3, g4, hA, hz, hlt⟩ := X
  have hc := Nat.le_trans hc g3
  have hs := Nat.le_trans hs g4
  have hKn := hV.1.1.1 ci1 _ hcl1
  refine W.newcK hx hb hown (hts _ w1) (hts _ w2) (hts _ w3) rfl d1 (by omega) (by omega) hKn.2.1 h2.1 fun H1 kC hkC e1 z1 o1 => ?_
  have ho : va_at G.1 x_cls (n + r, .inr (ci1, fs0)) H1 := ⟨_, hcl1, (u_born ty1 hts hin1 hKn hkC e1 hty1).to hfs⟩
  have oq : ∀ q, q < H.size → H1[q]? = H[q]? := fun q hq => o1 q (by rw [← h2.1]; exact hq)
  have S1 : va_S A s.heap H1 locs := h3.more (by rw [z1, h2.1]; omega) oq
  have hAA : ∀ q, n + r ≤ q → A q := fun q hq => by rw [hA]; exact Or.inr (by omega)
  refine lv_dup hx hb d2 rfl ?_
  refine w_ctor (Wd := cD G ci1 (n + r) (n + r + 1) rows1 fs1 r1) (va_runIN (Ts := x_big) (host := host) (As := []) (rest := .ref (n + r) :: st) ⟨hx, hb, hml, hown, hts⟩ hm ⟨va_cnB 0 hts (x_gin w6) rfl rfl rfl (hV.1.2.2.1 _ w4) (by rw [hyc]; exact hts _ w3) hy ⟨Nat.le_trans hr.1 g1, Nat.le_trans hr.2 g2⟩, hy1, hts _ w5⟩ ⟨c_blind, fun U hU hW => ?_⟩ rfl rfl (h1.1.trans hml) rfl (lv_room hst) d3 ⟨hc, hs⟩) hAA S1 (fun H2 locs2 hz2 hW2 hk2 S2 => ?_)
  · subst hU
    exact ⟨rfl, z1, by omega, ho, ((hV.kept S1.2.1).warm hW).narrow (fun q h => hAA q (by rcases h with h | h <;> omega))⟩
  · have ok : ∀ q, q < n + r → H2[q]? = H[q]? := fun q hq => (hk2 q (by rw [z1]; omega) hq).trans (oq q (by rw [h2.1]; exact hq))
    refine kk H2 locs2 ls h1 ⟨by rw [hz2]; omega, h2.2.1.kept (ok _ (by show h0 < n + r; omega)), fun k hk => ?_⟩ S2
    rcases Nat.lt_or_ge k r with c | c
    · exact (h2.2.2 k c).kept (ok _ (by show n + k < n + r; omega))
    · rcases Nat.eq_or_lt_of_le c with c | c
      · subst c
        rw [hr0]; exact hW2.1
      · have g := hW2.2 (k - r - 1) (by omega)
        rw [← hr1 (k - r - 1) (by omega)] at g
        rw [show n + r + 1 + (k - r - 1) = n + k by omega, show r + 1 + (k - r - 1) = k by omega] at g
        exact g
set_option maxHeartbeats 4000000 in
/-- new Text(v) -/
theorem j_subT (X : CX E cc nL own fr lo h0 n) {index index2 : Nat} {d : Int} {v : Int32} {C : String} {T1 : u_T} {N1 ci1 mL fr1 lo1 r1 sl1 : Nat} {y : MethodName} {b1 : ByteArray} {rows1 : Nat → va_E} {fs0 fs1 : List Value} (hcl1 : x_cls[ci1]? = some (C, T1, N1)) (hin1 : ∀ w ∈ u_ws C T1 N1, w ∈ x_big) (ty1 : Nat → FieldType) (hty1 : ∀ k, k < N1 → parseFieldDescriptor (T1 k).2.2.1 = some (ty1 k)) (w1 : Cond.classLink own index C ∈ x_big) (w2 : Cond.instantiable C N1 ∈ x_big) (w3 : Cond.initialized C ∈ x_big) (hfs : ∀ j, j < N1 → defaultValue (ty1 j) = vp_V fs0 j)
    (hm : CC (eG E) (eL E) y b1 mL fr1 lo1 ci1 (n + r) (n + r + 1) [.int v] (cD (eG E) ci1 (n + r) (n + r + 1) rows1 fs1 r1) fs0 r1 sl1) (hyc : y.cls = C) (w4 : Cond.methodLink own index2 y ∈ x_big) (w5 : Cond.instanceMethod y ∈ x_big) (w6 : Cond.code y b1 mL none ∈ x_big) (hy : y.cls ≠ "java/lang/invoke/MethodHandle" ∧ y.cls ≠ "java/lang/invoke/VarHandle" ∧ (parseMethodDescriptor y.desc).map (fun d => d.parameters.length) = some 1) (hy1 : y.name = "<init>") (hr : fr1 + 1 ≤ fr ∧ 8 + (mL + 11) + lo1 ≤ lo) (hst : ((Value.ref (n + r) :: st).map fun v => v.category).sum ≤ 8)
    (hr0 : rows r = .inr (ci1, fs1)) (hr1 : ∀ k, k < r1 → rows (r + 1 + k) = rows1 k) (hc : cl + 1 + r1 ≤ eK E) (hs : sl + N1 + sl1 ≤ eN E)
    (d1 : decode cc pc = .ok (.new index, 3)) (d2 : decode cc (pc + 3) = .ok (.dup, 1)) (d4 : decode cc (pc + 3 + 1) = .ok (.bipush d, 2)) (hv : (Int8.ofInt d).toInt32 = v) (d3 : decode cc (pc + 3 + 1 + 2) = .ok (.invokespecial index2, 3))
    (kk : JC E ci h0 n rows (pc + 3 + 1 + 2 + 3) L (.ref (n + r) :: st) fs (r + 1 + r1) (cl + 1 + r1) (sl + N1 + sl1)) : JC E ci h0 n rows pc L st fs r cl sl := by
  obtain ⟨p, l, e, R, s, m, args, below, meth, c9, ⟨Z, A, k9, n9⟩, G⟩ := E
  intro H locs ls h1 h2 h3
  obtain ⟨hx, hb, hml, hown, hts, hV, hrt, hini, hlk, g1, g2, g3, g4, hA, hz, hlt⟩ := X
  have hc := Nat.le_trans hc g3
  have hs := Nat.le_trans hs g4
  have hKn := hV.1.1.1 ci1 _ hcl1
  refine W.newcK hx hb hown (hts _ w1) (hts _ w2) (hts _ w3) rfl d1 (by omega) (by omega) hKn.2.1 h2.1 fun H1 kC hkC e1 z1 o1 => ?_
  have ho : va_at G.1 x_cls (n + r, .inr (ci1, fs0)) H1 := ⟨_, hcl1, (u_born ty1 hts hin1 hKn hkC e1 hty1).to hfs⟩
  have oq : ∀ q, q < H.size → H1[q]? = H[q]? := fun q hq => o1 q (by rw [← h2.1]; exact hq)
  have S1 : va_S A s.heap H1 locs := h3.more (by rw [z1, h2.1]; omega) oq
  have hAA : ∀ q, n + r ≤ q → A q := fun q hq => by rw [hA]; exact Or.inr (by omega)
  refine lv_dup hx hb d2 rfl ?_
  refine lv_bipush hx hb d4 hv ?_
  refine w_ctor (Wd := cD G ci1 (n + r) (n + r + 1) rows1 fs1 r1) (va_runI (Ts := x_big) (As := [.int v]) (rest := .ref (n + r) :: st) ⟨hx, hb, hml, hown, hts⟩ hm ⟨callB_of 1 hts (x_gin w6) rfl rfl rfl (by rw [hyc]; exact hts _ w3) (hts _ w4) hy ⟨Nat.le_trans hr.1 g1, Nat.le_trans hr.2 g2⟩, hy1, hts _ w5⟩ ⟨c_blind, fun U hU hW => ?_⟩ rfl rfl (h1.1.trans hml) rfl (lv_room hst) d3 ⟨hc, hs⟩) hAA S1 (fun H2 locs2 hz2 hW2 hk2 S2 => ?_)
  · subst hU
    exact ⟨rfl, z1, by omega, ho, ((hV.kept S1.2.1).warm hW).narrow (fun q h => hAA q (by rcases h with h | h <;> omega))⟩
  · have ok : ∀ q, q < n + r → H2[q]? = H[q]? := fun q hq => (hk2 q (by rw [z1]; omega) hq).trans (oq q (by rw [h2.1]; exact hq))
    refine kk H2 locs2 ls h1 ⟨by rw [hz2]; omega, h2.2.1.kept (ok _ (by show h0 < n + r; omega)), fun k hk => ?_⟩ S2
    rcases Nat.lt_or_ge k r with c | c
    · exact (h2.2.2 k c).kept (ok _ (by show n + k < n + r; omega))
    · rcases Nat.eq_or_lt_of_le c with c | c
      · subst c
        rw [hr0]; exact hW2.1
      · have g := hW2.2 (k - r - 1) (by omega)
        rw [← hr1 (k - r - 1) (by omega)] at g
        rw [show n + r + 1 + (k - r - 1) = n + k by omega, show r + 1 + (k - r - 1) = k by omega] at g
        exact g
end XJ3
