/-! THE CLAIM OUT OF ONE WALK OF THE LAW'S BODY. Your part is whole_start (and what it stands on); all else here is the same for every law, but numbers. -/
def R_law : String := "WoodliceSenateLaw"
def lw_P (b : Addr) (xs : List Int32) (args : Array Value) (s : State) : Prop := args = #[.ref b] ∧ s.IntsAt b xs ∧ xs.length ≤ 384 ∧ (Jvm.Cond.and given_1 narrow_1).before args s = true
def lw_Q (_ : Array Value) (s : State) (o : Outcome) (t : State) : Prop := o = .returned (some (.int 1)) ∧ Framed s o t [] 600000 7302249
def lw_Z (below : List Frame) (a : Array Value) (s : State) : State → Prop := fun t => ∃ o, t.status = .running ∧ Ended t below o ∧ lw_Q a s o t
set_option maxHeartbeats 4000000 in
/-- the law's own end, with 1 on the stack, nothing written that was there before, its room as the claim has it -/
theorem lw_ret {p : Program} {l : Launch} {e : Env} {s : State} {m : MethodId} {below : List Frame} {meth : Method} {c : Code} {b : Nat} (hx : p.tables.exec = Jvm.exec) (hb : c.code = code) (hr : meth.sig.returnType = ret) (hlocks : meth.locks = false) {pc : Nat} {H : Heap} {ls : Array Slot} (hdg : decode code pc = .ok (.ireturn, 1)) : W p l e room_1 s m #[Value.ref b] below meth c H [] 600000 7302249 (lw_Z below #[Value.ref b] s) (F0 m pc ls [.int 1]) := by
  intro T hT X
  obtain ⟨fs, hret, hrun, hended, hW, hframe⟩ := X.leave (v := some (.int 1)) (hlocks := hlocks) (fun h => by rw [hr] at h; cases h)
  have hmeth' : T.vm.method? m = some meth := X.method'
  refine ⟨T.setFrames fs, ?_, .returned (some (.int 1)), hrun, hended, rfl, ⟨_, rfl⟩, hW, hframe⟩
  jvm_step X.here [X.here.top, hx, hb, hdg, hmeth', hr, ret, narrow_b1]
  (try refine ⟨rfl, ?_⟩); (try refine ⟨rfl, ?_⟩)
  first | (intro acts; rw [hret _ acts rfl rfl rfl]) | rw [hret _ _ rfl rfl rfl]
  exact Steps.refl _
/-- what holds at the law's entry: the machine, the code, the tables' words (any of lw_tbl by 'hts w (by decide +kernel)'), the script of L ints xs at the cell b, what the Statement gives of the start (any of its parts by flat_of_before) -/
def lw_At (p : Program) (s : State) (m : MethodId) (meth : Method) (c : Code) (b L : Nat) (xs : Nat → Int32) : Prop :=
  p.tables.exec = Jvm.exec ∧ c.code = code ∧ meth.sig.returnType = ret ∧ c.maxLocals = 4 ∧ s.vm.findClass R_law = some m.cls ∧ (∀ w ∈ lw_tbl, w.before #[Value.ref b] s = true) ∧ va_X b L xs s s.heap ∧ b < s.heap.size ∧ meth.locks = false ∧ (Jvm.Cond.and given_1 narrow_1).before #[Value.ref b] s = true
set_option maxHeartbeats 4000000 in
/-- behind the class's own constructor -/
theorem w_ctorS {G : xG} {p : Program} {l : Launch} {e : Env} {R : Room} {s : State} {m : MethodId} {args : Array Value} {below : List Frame} {meth : Method} {c : Code} {H1 : Heap} {locs : List Loc} {c1 s1 r1 sl1 a pc : Nat} {ls : Array Slot} {st0 rest : List Value} {QQ : State → Prop} {A : Nat → Prop} {av : Array Value} (hr : va_Run p l e R s m args below meth c H1 locs c1 s1 r1 sl1 (F0 m pc ls st0) rest (sQ G a av) (cA a (a + 1))) (hA : ∀ q, a ≤ q → A q) (hS : va_S A s.heap H1 locs)
    (kk : ∀ (H2 : Heap) (locs2 : List Loc) (σ : xSt), a + 331 ≤ H2.size → sP σ → RW G a σ 331 H2 → va_S A s.heap H2 locs2 → W p l e R s m args below meth c H2 locs2 (c1 + r1) (s1 + sl1) QQ (F0 m (pc + 3) ls rest)) : W p l e R s m args below meth c H1 locs c1 s1 QQ (F0 m pc ls st0) := by
  intro T hT X
  obtain ⟨v, st₀, t, T', L, h0, X', hL, e1, e2, ⟨hv, hsz, ⟨σ, g1, g2⟩, hz, hk⟩, stp⟩ := hr T hT X
  cases hv
  rw [h0] at hz hk
  have nA : ∀ q, cA a (a + 1) q → A q := fun q h => hA q (by rcases h with h | h <;> omega)
  obtain ⟨t2, a1, b1⟩ := kk T'.heap (locs ++ L) σ (by rw [e1]; exact hsz) g1 (by rw [e1]; exact g2)
    ⟨Nat.le_trans hS.1 (by rw [e1]; exact hz), fun q h1 h2 => by rw [e1, hk q (Nat.lt_of_lt_of_le h1 hS.1) (fun z => h2 (nA q z))]; exact hS.2.1 q h1 h2, fun q hq => by
      rcases List.mem_append.mp hq with h | h
      · exact hS.2.2 q h
      · exact nA _ (hL q h)⟩ T' rfl X'
  exact ⟨t2, stp t2 a1, b1⟩
set_option maxHeartbeats 4000000 in
set_option maxRecDepth 100000 in
/-- YOUR PART: from the entry, for every script of at most 384 ints, the law comes to its end with true ('hflags': the launch's flags, for a law that throws: no stack traces) -/
theorem whole_start {p : Program} {e : Env} {s : State} {m : MethodId} {below : List Frame} {meth : Method} {c : Code} (l : Launch) (hflags : l.flags = flags0) {b L : Nat} {xs : Nat → Int32} (hL : L ≤ 384) (C0 : lw_At p s m meth c b L xs) : W p l e room_1 s m #[Value.ref b] below meth c s.heap [] 0 0 (lw_Z below #[Value.ref b] s) (entryFrame m ([Value.ref b] : List Value).toArray 4) := by
  obtain ⟨hx, hb, hr, hml, hown, hts, hX, hbl, hlocks, hgv⟩ := id C0
  have hts2 : ∀ w ∈ x_big, w.before #[Value.ref b] s = true := fun w h => hts w (x_mem2 h)
  have hbA : ¬ (fun q : Nat => s.heap.size ≤ q) b := Nat.not_le.mpr hbl
  obtain ⟨G, hK⟩ := lw_G hts
  have hV : cV G (fun q => s.heap.size ≤ q) s s.heap := lw_V hts hgv hK
  have hS : va_S (fun q : Nat => s.heap.size ≤ q) s.heap s.heap [] := va_S.rf
  have hl := lv_entry ([.ref b]) (n := 4) (Nat.le_of_ble_eq_true rfl)
  rw [lg_entry_eq]
  generalize (lg_sl ([.ref b]) ++ List.replicate (4 - (lg_sl ([.ref b])).length) Slot.unset).toArray = ls at hl ⊢
  have hl : lv_has ls 4 [(0, .ref b)] := hl
  obtain ⟨n, hn⟩ : ∃ n, s.heap.size = n := ⟨_, rfl⟩
  have hAA : ∀ q, n ≤ q → (fun q : Nat => s.heap.size ≤ q) q := fun q hq => by show s.heap.size ≤ q; omega
  -- the class
  have hK6 := hK.1 6 _ rfl
  refine W.newcK hx hb hown (hts2 _ mcl_L_7) (hts2 _ mna_6) (hts2 _ mn_6) rfl (x_dr DLH 0 rfl) (Nat.le_of_ble_eq_true rfl) (Nat.le_of_ble_eq_true rfl) hK6.2.1 hn fun H1 kC hkC e1 z1 o1 => ?_
  have ho : va_at G.1 x_cls (n, .inr (6, [.null, .null, .null, .null, .null, .null, .null, .null, .null, .null, .null, .int 0, .int 0, .int 0, .int 0, .int 0])) H1 := ⟨_, rfl, (u_born tyX6 hts2 inX6 hK6 hkC e1 tyX6_ok).to (fun j hj => by rcases (show j = 0 ∨ j = 1 ∨ j = 2 ∨ j = 3 ∨ j = 4 ∨ j = 5 ∨ j = 6 ∨ j = 7 ∨ j = 8 ∨ j = 9 ∨ j = 10 ∨ j = 11 ∨ j = 12 ∨ j = 13 ∨ j = 14 ∨ j = 15 by omega) with rfl | rfl | rfl | rfl | rfl | rfl | rfl | rfl | rfl | rfl | rfl | rfl | rfl | rfl | rfl | rfl <;> rfl)⟩
  have S1 : va_S (fun q : Nat => s.heap.size ≤ q) s.heap H1 [] := hS.more (by omega) (fun q hq => o1 q (by omega))
  refine lv_dup hx hb (x_dr DLH 1 rfl) rfl ?_
  refine w_ctorS (G := G) (a := n) (va_runI (Ts := x_big) (As := []) (rest := [.ref n]) ⟨hx, hb, hml, hown, hts2⟩ (c_senate (G := G) (l := l) (b := n)) ⟨callB_of 0 hts2 (x_gin mc_6_init) rfl rfl rfl (hts2 _ mn_6) (hts2 _ ml_L_9) ⟨by decide +kernel, by decide +kernel, by decide +kernel⟩ ⟨Nat.le_of_ble_eq_true rfl, Nat.le_of_ble_eq_true rfl⟩, rfl, hts2 _ mi_6_init⟩ ⟨c_blind, fun U hU hW => ?_⟩ rfl rfl hl.1 rfl (lv_room (Nat.le_of_ble_eq_true rfl)) (x_dr DLH 2 rfl) ⟨Nat.le_of_ble_eq_true rfl, Nat.le_of_ble_eq_true rfl⟩) hAA S1 (fun H2 locs2 σ hz2 hp hRW S2 => ?_)
  · subst hU
    exact ⟨rfl, z1, Nat.lt_succ_self n, ho, ((hV.kept S1.2.1).warm hW).narrow (fun q h => hAA q (by rcases h with h | h <;> omega))⟩
  refine lv_astore_n (lv' := [(1, .ref n), (0, .ref b)]) hx hb (x_dr DLH 3 rfl) rfl hl (by decide) rfl (fun ls hl => ?_)
  -- the reference
  obtain ⟨b2, hb2⟩ : ∃ b2, H2.size = b2 + 331 := ⟨H2.size - 331, by omega⟩
  have hn2 : n ≤ b2 := by omega
  have hK7 := hK.1 7 _ rfl
  refine W.newcK hx hb hown (hts2 _ mcl_L_10) (hts2 _ mna_7) (hts2 _ mn_7) rfl (x_dr DLH 4 rfl) (Nat.le_of_ble_eq_true rfl) (Nat.le_of_ble_eq_true rfl) hK7.2.1 hb2 fun H3 kD hkD e3 z3 o3 => ?_
  have ho3 : va_at G.1 x_cls (b2 + 331, .inr (7, [.null, .null, .int 0, .null, .int 0, .null, .null, .null, .int 0, .null, .null, .null, .int 0, .null, .null, .null, .int 0, .null, .null, .null, .null, .null, .int 0, .null, .null, .null, .null, .null, .null, .null, .null, .int 0, .null, .null, .null, .null, .null, .null, .null, .null, .null, .int 0])) H3 := ⟨_, rfl, (u_born tyX7 hts2 inX7 hK7 hkD e3 tyX7_ok).to (fun j hj => by rcases (show j = 0 ∨ j = 1 ∨ j = 2 ∨ j = 3 ∨ j = 4 ∨ j = 5 ∨ j = 6 ∨ j = 7 ∨ j = 8 ∨ j = 9 ∨ j = 10 ∨ j = 11 ∨ j = 12 ∨ j = 13 ∨ j = 14 ∨ j = 15 ∨ j = 16 ∨ j = 17 ∨ j = 18 ∨ j = 19 ∨ j = 20 ∨ j = 21 ∨ j = 22 ∨ j = 23 ∨ j = 24 ∨ j = 25 ∨ j = 26 ∨ j = 27 ∨ j = 28 ∨ j = 29 ∨ j = 30 ∨ j = 31 ∨ j = 32 ∨ j = 33 ∨ j = 34 ∨ j = 35 ∨ j = 36 ∨ j = 37 ∨ j = 38 ∨ j = 39 ∨ j = 40 ∨ j = 41 by omega) with rfl | rfl | rfl | rfl | rfl | rfl | rfl | rfl | rfl | rfl | rfl | rfl | rfl | rfl | rfl | rfl | rfl | rfl | rfl | rfl | rfl | rfl | rfl | rfl | rfl | rfl | rfl | rfl | rfl | rfl | rfl | rfl | rfl | rfl | rfl | rfl | rfl | rfl | rfl | rfl | rfl | rfl <;> rfl)⟩
  have S3 : va_S (fun q : Nat => s.heap.size ≤ q) s.heap H3 locs2 := S2.more (by omega) (fun q hq => o3 q (by omega))
  have hAB : ∀ q, b2 + 331 ≤ q → (fun q : Nat => s.heap.size ≤ q) q := fun q hq => by show s.heap.size ≤ q; omega
  refine lv_dup hx hb (x_dr DLH 5 rfl) rfl ?_
  refine w_ctor (a := b2 + 331) (va_runI (Ts := x_big) (As := []) (rest := [.ref (b2 + 331)]) ⟨hx, hb, hml, hown, hts2⟩ (c_o13 (G := G) (l := l) (b := b2)) ⟨callB_of 0 hts2 (x_gin mc_7_init) rfl rfl rfl (hts2 _ mn_7) (hts2 _ ml_L_12) ⟨by decide +kernel, by decide +kernel, by decide +kernel⟩ ⟨Nat.le_of_ble_eq_true rfl, Nat.le_of_ble_eq_true rfl⟩, rfl, hts2 _ mi_7_init⟩ ⟨c_blind, fun U hU hW => ?_⟩ rfl rfl hl.1 rfl (lv_room (Nat.le_of_ble_eq_true rfl)) (x_dr DLH 6 rfl) ⟨Nat.le_of_ble_eq_true rfl, Nat.le_of_ble_eq_true rfl⟩) hAB S3 (fun H4 locs4 hz4 hW4 hk4 S4 => ?_)
  · subst hU
    exact ⟨rfl, z3, Nat.lt_succ_self _, ho3, ((hV.kept S3.2.1).warm hW).narrow (fun q h => hAB q (by rcases h with h | h <;> omega))⟩
  have hrows : ∀ k, k < 35 → va_at G.1 x_cls (b2 + 331 + k, rowE G b2 s0 (331 + k)) H4 := fun k hk => by
    rcases Nat.eq_zero_or_pos k with c | c
    · subst c
      have g : rowE G b2 s0 (331 + 0) = _ := rowE_o (K := 331) (o := 13) (by decide) rfl (by decide) rfl
      rw [g]
      exact hW4.1
    · have g : va_at G.1 x_cls (b2 + 332 + (k - 1), rowE G b2 s0 (332 + (k - 1))) H4 := hW4.2 (k - 1) (by omega)
      rw [show b2 + 332 + (k - 1) = b2 + 331 + k by omega, show 332 + (k - 1) = 331 + k by omega] at g
      exact g
  have ok : ∀ q, q < b2 + 331 → H4[q]? = H2[q]? := fun q hq => (hk4 q (by omega) hq).trans (o3 q hq)
  have hP : xP (adL n b2) G σ H4 := xP_L (fun k hk => (hRW k hk).kept (ok _ (by show n + k < b2 + 331; omega))) hrows hp
  obtain ⟨ad, had⟩ : ∃ ad, adL n b2 = ad := ⟨_, rfl⟩
  have hJ : xJ ad := had ▸ xJ_L hn2
  have hWA : ∀ q, xW ad q → s.heap.size ≤ q := fun q h => by subst had; have := xW_L hn2 h; omega
  have a0 : n = ad 0 0 0 := by subst had; rfl
  have a13 : b2 + 331 = ad 13 0 0 := by subst had; rfl
  rw [had] at hP
  have X : FX ad (p, l, e, room_1, s, m, #[Value.ref b], below, meth, c, (fun _ => lw_Z below #[Value.ref b] s, fun q => s.heap.size ≤ q, 600000, 7302249), G) code 4 RL x_tag 14 562 :=
    ⟨hx, hb, hml, hown, hts2, hV.1, hJ, fun h => absurd rfl h, hlocks, Nat.le_refl _, Nat.le_refl _, hWA, Nat.le_refl _, Nat.le_refl _⟩
  refine W.widen (k := 600000) (n := 7302249) (Nat.le_of_ble_eq_true rfl) (Nat.le_of_ble_eq_true rfl) ?_
  refine lv_astore_n (lv' := [(2, .ref (b2 + 331)), (1, .ref n), (0, .ref b)]) hx hb (x_dr DLH 7 rfl) rfl hl (by decide) rfl (fun ls hl => ?_)
  refine lv_iconst (v := 0) hx hb (x_dr DLH 8 rfl) (by decide) ?_
  refine lv_istore_n (lv' := [(3, .int 0), (2, .ref (b2 + 331)), (1, .ref n), (0, .ref b)]) hx hb (x_dr DLH 9 rfl) rfl hl (by decide) rfl (fun ls hl => ?_)
  have K := law_loop (Q := fun _ _ => True) X (b := b) (N := L) (xs := xs) ⟨hX, hbl, hbA⟩ hL (fun k σ => r_iconst (v := 1) X (x_dr DLT 2 rfl) (by decide) (fun H locs ls h1 h2 h3 => va_forget (fun q hq => h3.2.2 q hq) (lw_ret hx hb hr hlocks (x_dr DLT 3 rfl)))) (L + 1) 0 σ (Nat.zero_le L) (by omega) (RR_0 hp)
  rw [a0, a13] at hl
  exact K H4 locs4 ls (by rw [hml]; exact lv_sub hl [3, 2, 1, 0] rfl) hP S4
set_option maxHeartbeats 4000000 in
theorem lw_walk (l : Launch) (hflags : l.flags = flags0) (b : Addr) (xs : List Int32) : MetFree l x (headSpec (Jvm.Cond.code x code maxLocals ret :: tables_1) room_1) (lw_P b xs) (fun _ _ _ _ _ => True) lw_Q := by
  refine MetFree.of_bodyS (code := code) (maxLocals := maxLocals) (ret := ret) (by decide) ?_ ?_
  · intro args s m h hn
    obtain ⟨meth, c, h1, h2, h3, h4, h5, h6, -, -⟩ := Cond.code_spec hn (atoms_spec (ws := Jvm.Cond.code x code maxLocals ret :: tables_1) h _ List.mem_cons_self)
    exact ⟨meth, c, h1, h2, h3, h4, h5, h6⟩
  · intro p e s m args below meth c s₁ B hml0 hP _
    obtain ⟨rfl, hx, hbd, hgv⟩ := hP
    obtain ⟨scr, harrAt, hlist, hof, hsmall⟩ := hx
    obtain ⟨hcb, hkn, -, -⟩ := State.arrayAt?_spec harrAt
    have hown : s.vm.findClass R_law = some m.cls := findClass_of_methodNamed B.named
    have hts0 : ∀ c ∈ (Jvm.Cond.code x code maxLocals ret :: tables_1), c.before #[Value.ref b] s = true := atoms_spec (ws := Jvm.Cond.code x code maxLocals ret :: tables_1) B.pre
    have hts : ∀ w ∈ lw_tbl, w.before #[Value.ref b] s = true := k2_hts_sels lw_privs (fun w hw => hts0 w (List.mem_cons_of_mem _ hw)) lw_privs_ok
    have hml : c.maxLocals = 4 := B.maxLocals_eq (hts0 _ List.mem_cons_self)
    have X₀ : Stand p l e room_1 s m #[Value.ref b] below meth c s₁ [] 0 0 := Stand.of_body B
    have hh0 : s₁.heap = s.heap := by rw [B.state]; rfl
    have hsz : scr.slots.size = xs.length := by rw [← Array.length_toList, hlist, List.length_map]
    have hval : ∀ j : Nat, j < xs.length → scr.slots[j]? = some (.int (xs.getD j 0)) := fun j hj => by
      rw [← Array.getElem?_toList, hlist]
      simp [hj]
    have hbl : b < s.heap.size := (Array.getElem?_eq_some_iff.mp hcb).1
    have hX : va_X b xs.length (fun j => xs.getD j 0) s s.heap := ⟨scr, hcb, hof, hkn, hsz, hval⟩
    have K : W p l e room_1 s m #[Value.ref b] below meth c s₁.heap [] 0 0 (lw_Z below #[Value.ref b] s) (entryFrame m ([Value.ref b] : List Value).toArray 4) := by
      rw [hh0]
      exact whole_start l hflags hbd ⟨B.exec, B.bytes, B.returns, hml, hown, hts, hX, hbl, B.notSynchronized, hgv⟩
    obtain ⟨t, a1, o, b1, b2, b3⟩ := K s₁ rfl X₀
    exact ⟨t, o, a1, b1, b2, b3⟩
set_option maxHeartbeats 4000000 in
theorem lw_pre_spec {args : Array Value} {s : State} (h : (Jvm.Cond.and given_1 narrow_1).before args s = true) (hr : rest_1_c.before args s = true) : ∃ (b : Addr) (xs : List Int32), lw_P b xs args s := by
  have hs := flat_of_before _ h
  have hq := flat_of_before _ hr
  have hc : (Cond.count 1).before args s = true := hs _ (by decide +kernel)
  have harr : (Cond.arrayOf (.arg 0) .int).before args s = true := hs _ (by decide +kernel)
  have hle : (Cond.le (.length (.arg 0)) (.int 384)).before args s = true := hs _ (by decide +kernel)
  have hlen : (Cond.isInt (.length (.arg 0))).before args s = true := hq _ (by decide +kernel)
  have hall : (Cond.all (.arg 0) (.isInt (.elem (.arg 0) (.index 0)))).before args s = true := hq _ (by decide +kernel)
  obtain ⟨b, xs, hb, hx⟩ := State.ints_of_pre rfl harr hlen hall
  have hsm : xs.length < 2 ^ 31 := hx.choose_spec.2.2.2
  have hev : (Term.length (.arg 0)).eval args s none [] s = some (.int xs.length.toInt32) := hx.length_eval hb
  have hv := Cond.le_ints hev (show (Term.int 384).eval args s none [] s = some (.int 384) from rfl)
  have hd : xs.length.toInt32 ≤ 384 := by
    simpa [Cond.before, Cond.holds, hv] using hle
  have hN : xs.length ≤ 384 := (Int32.ofNat_le_ofNat hsm (by decide)).mp (show Int32.ofNat xs.length ≤ Int32.ofNat 384 from hd)
  exact ⟨b, xs, Cond.one_arg hc (show args[0]? = some (.ref b) from hb), hx, hN, h⟩
set_option maxHeartbeats 4000000 in
theorem lw_comes (l : Launch) (hflags : l.flags = flags0) : Comes l x (Jvm.Cond.code x code maxLocals ret :: tables_1) room_1 (fun tb e args s => Calls_1 tb e args s ∧ rest_1 tb e args s ∧ Pre_1 tb e args s)
    (fun _ _ args s o t => lw_Q args s o t) := by
  intro p e ha hc hk s m args below hf hfit hheap happ hpre
  obtain ⟨b, xs, hP⟩ := lw_pre_spec hpre.2.2 hpre.2.1
  obtain ⟨k, o, h1, h2, h3, hQ⟩ := lw_walk l hflags b xs p e ha hc hk s m args below hf ((Spec.applies_iff_loose hf).mp happ).1 hP trivial
  exact ⟨k, o, h1, h2, h3, hQ⟩
set_option maxHeartbeats 4000000 in
theorem lw_frame {s t : State} {o : Outcome} {args : Array Value} (h : Framed s o t [] 600000 7302249) :
    Framed s o t (fieldLocs frame_1_writes args s ++ arrayLocs frame_1_arrays args s ++ staticLocs frame_1_statics s) 600000 7302249 := h
set_option maxHeartbeats 4000000 in
theorem lw_limb (L : Cond) (hL : ∀ (args : Array Value) (s t : State), L.after args s (.returned (some (.int 1))) t = true) :
    ArmFor flags0 classFile x code maxLocals ret World_1 tables_1 room_1 Calls_1 rest_1 Pre_1
      (fun tb e a s o t => postC L tb e a s o t ∧ Framed s o t (fieldLocs frame_1_writes a s ++ arrayLocs frame_1_arrays a s ++ staticLocs frame_1_statics s) 600000 7302249) := by
  intro l hflags _ _ p e ha hc hk s m args below hf hfit hheap happ hpre
  obtain ⟨k, o, h1, h2, h3, rfl, hF⟩ := lw_comes l hflags p e ha hc hk s m args below hf hfit hheap happ hpre
  exact ⟨k, _, h1, h2, h3, hL args s _, lw_frame hF⟩
set_option maxHeartbeats 4000000 in
theorem i_vc : Claimed_1_1 ∧ Claimed_1_2 := ⟨lw_limb limb_1_1 (fun args s t => by simp [limb_1_1, Cond.after, Cond.holds, Cond.value]), lw_limb limb_1_2 (fun args s t => Cond.after_iff.mpr (by
  first | (rw [show limb_1_2 = Cond.eq .result (.int 1) from rfl, Cond.eq_ints (x := 1) (y := 1) rfl rfl]; simp; done) | (simp [limb_1_2, Cond.value, Term.eval]; done)))⟩
