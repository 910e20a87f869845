-- rows of the class's own constructor
/-- the rows as the sheets come: i of them -/
def rowS (G : xG) (b i : Nat) (k : Nat) : va_E := if k = 299 then .inl (G.2.2.2.1, 4, .inr (.inr (.inr (.inr (fun j => if j < i then some (b + 323 + 2 * j) else none))))) else rowE G b s0 (1 + k)
set_option maxHeartbeats 4000000 in
theorem rowS_ne {G : xG} {b i k : Nat} (h : ¬ k = 299) : rowS G b i k = rowE G b s0 (1 + k) := if_neg h
set_option maxHeartbeats 4000000 in
theorem rowS_at {G : xG} {b i : Nat} : rowS G b i 299 = .inl (G.2.2.2.1, 4, .inr (.inr (.inr (.inr (fun j => if j < i then some (b + 323 + 2 * j) else none))))) := if_pos rfl
set_option maxHeartbeats 4000000 in
theorem rowS_0 {G : xG} {b : Nat} : rowS G b 0 299 = .inl (G.2.2.2.1, 4, .inr (.inr (.inr (.inr (fun _ => none))))) := by
  rw [rowS_at]
  have e : (fun j => if j < 0 then some (b + 323 + 2 * j) else none) = (fun _ => none : Nat → Option Nat) := funext fun j => if_neg (Nat.not_lt_zero j)
  rw [e]
set_option maxHeartbeats 4000000 in
theorem rowS_s {G : xG} {b i : Nat} : rowS G b (i + 1) 299 = .inl (G.2.2.2.1, 4, .inr (.inr (.inr (.inr (va_up (fun j => if j < i then some (b + 323 + 2 * j) else none) i (some (b + 323 + 2 * i))))))) := by
  rw [rowS_at]
  have e : (fun j => if j < i + 1 then some (b + 323 + 2 * j) else none) = va_up (fun j => if j < i then some (b + 323 + 2 * j) else none) i (some (b + 323 + 2 * i)) := funext fun j => by
    unfold va_up
    by_cases c : j = i
    · subst c
      rw [if_pos rfl, if_pos (Nat.lt_succ_self _)]
    · rw [if_neg c]
      show _ = (if j < i then some (b + 323 + 2 * j) else none)
      by_cases d : j < i
      · rw [if_pos d, if_pos (by omega)]
      · rw [if_neg d, if_neg (by omega)]
  rw [e]
set_option maxHeartbeats 4000000 in
theorem rowS_4 {G : xG} {b k : Nat} (hk : k < 330) : rowS G b 4 k = rowE G b s0 (1 + k) := by
  by_cases c : k = 299
  · subst c
    rw [rowS_at, rowE_of (o := 0) (f := 9) (r := 0) (by decide) (x_ent_q (n := 4) rfl)]
    have e : x_sh (adS b) = (fun j => if j < 4 then some (b + 323 + 2 * j) else none) := funext fun j => by
      unfold x_sh adS
      by_cases d : j < 4
      · rw [if_pos d, if_pos d]
        rcases (show j = 0 ∨ j = 1 ∨ j = 2 ∨ j = 3 by omega) with q | q | q | q <;> subst q <;> rfl
      · rw [if_neg d, if_neg d]
    rw [e]
  · exact rowS_ne c
section XJ4
variable {E : xE} {cc : ByteArray} {nL fr lo ci h0 n : Nat} {own : String} {rows : Nat → va_E} {pc : Nat} {L : List (Nat × Value)} {st fs : List Value} {r cl sl : Nat}
set_option maxHeartbeats 4000000 in
theorem j_get (X : CX E cc nL own fr lo h0 n) {T : u_T} {N index : Nat} (hcl : x_cls[ci]? = some (own, T, N)) (hin : ∀ w ∈ u_ws own T N, w ∈ x_big) (k : Nat) (hk : k < N) (href : (T k).1 = own) (hlink : Cond.fieldLink own index own (T k).2.1 (T k).2.2.1 ∈ x_big) {v : Value} (hv : fs[k]? = some v) (hd : decode cc pc = .ok (.getfield index, 3)) (kk : JC E ci h0 n rows (pc + 3) L (v :: st) fs r cl sl) : JC E ci h0 n rows pc L (.ref h0 :: st) fs r cl sl := by
  obtain ⟨p, l, e, R, s, m, args, below, meth, c, ⟨Z, A, k9, n9⟩, G⟩ := E
  intro H locs ls h1 h2 h3
  obtain ⟨hx, hb, hml, hown, hts, hV, hrt, hini, hlk, g1, g2, g3, g4, hA, hz, hlt⟩ := X
  have hK := hV.1.1
  obtain ⟨rr, h1', cell, q1, q2, q3, q4⟩ := h2.2.1
  have hr : rr = (own, T, N) := Option.some.inj (h1'.symm.trans hcl)
  subst hr
  obtain ⟨hS, hfc, kC, hkC, hkind⟩ := hK.1 ci _ hcl
  obtain ⟨cf, kf, fi, f, hi, hsl⟩ := hS k hk
  have hi2 := hi
  rw [href] at hi2
  refine W.getf hx hb hown (hts _ hlink) hi2 (u_facts hfc hkC (u_lays hts hin hk) hi).1 q1 (by rw [q3]; exact fun h => by cases h) (v := v) ?_ rfl rfl hd (kk H locs ls h1 h2 h3)
  rw [hsl, q4 k hk]
  simp [vp_V, hv]
set_option maxHeartbeats 4000000 in
/-- a sheet comes into the row of sheets -/
theorem j_aast (X : CX E cc nL own fr lo h0 n) {rows' : Nat → va_E} {i k0 kv a : Nat} {f : Nat → Option Nat} {vs : List Value} {v : Int32} (hv : v = nI i) (hi : i < 4) (hk0 : k0 < r) (e0 : rows k0 = .inl ((eG E).2.2.2.1, 4, .inr (.inr (.inr (.inr f))))) (e1 : rows' k0 = .inl ((eG E).2.2.2.1, 4, .inr (.inr (.inr (.inr (va_up f i (some a))))))) (es : ∀ k, k < r → ¬ k = k0 → rows' k = rows k) (hkv : kv < r) (ev : rows kv = .inr (3, vs)) (ha : a = n + kv) (hd : decode cc pc = .ok (.aastore, 1)) (kk : JC E ci h0 n rows' (pc + 1) L st fs r cl sl) : JC E ci h0 n rows pc L (.ref a :: .int v :: .ref (n + k0) :: st) fs r cl sl := by
  obtain ⟨p, l, e, R, s, m, args, below, meth, c, ⟨Z, A, k9, n9⟩, G⟩ := E
  intro H locs ls h1 h2 h3
  obtain ⟨hx, hb, hml, hown, hts, hV, hrt, hini, hlk, g1, g2, g3, g4, hA, hz, hlt⟩ := X
  have hK := hV.1.1
  have hc3 : x_cls[3]? = some (RX3, TX3, 3) := rfl
  have a0 := h2.2.2 k0 hk0
  rw [e0] at a0
  have a1 := h2.2.2 kv hkv
  rw [ev, ← ha] at a1
  obtain ⟨r', hr', cellV, w1, w2, w3, -⟩ := a1
  have hcls := (hK.1 3 _ hc3).2
  obtain ⟨kA, comp, k1, k2, k3, -⟩ := (hK.2 2 (G.2.2.2.1, .object "WoodliceSenate$Sheet") rfl).2
  have hcomp : comp = G.1.1 3 := Option.some.inj (k3.symm.trans hcls.1)
  subst hcomp
  obtain ⟨kC, hkC, -⟩ := hcls.2
  have hv1 : ¬ v < 0 := by rw [hv]; exact nI_pos (by omega)
  have hv2 : v.toNatClampNeg = i := by rw [hv]; exact nI_clamp (by omega)
  refine W.aast hx hb a0 (fun q h => by cases h) (fun h => by cases h) k1 k2 rfl hkC ⟨hv1, by show _ < (arrV _ _ _).slots.size; rw [arrV_size, hv2]; exact hi⟩ w1 (fun q h => by rw [w3] at h; cases h) (by rw [w2]; exact hkC) (by rw [w2]; exact va_assign hcls) rfl rfl hd fun H1 e z oq => ?_
  refine kk H1 _ ls h1 ⟨z.trans h2.1, h2.2.1.kept (oq _ (by show h0 ≠ n + k0; omega)), fun k hk => ?_⟩ (h3.put z oq (by rw [hA]; exact Or.inr (by omega)))
  by_cases c : k = k0
  · subst c
    rw [e1]
    show H1[n + k]? = some (vp_cell _ _)
    rw [e, hv2]
    rw [vp_cell_q, vp_cell_q, arrV_store]
    congr 2
    funext q
    by_cases hq : q = i
    · subst hq
      simp [updV, va_up, va_rf]
    · simp [updV, va_up, hq]
  · rw [es k hk c]
    exact (h2.2.2 k hk).kept (oq _ (by show n + k ≠ n + k0; omega))
end XJ4
/-- the end of the class's constructor -/
def sQ (G : xG) (b : Nat) : Array Value → State → Outcome → State → Prop := fun _ st oc t => oc = .returned none ∧ b + 331 ≤ t.heap.size ∧ (∃ s, sP s ∧ RW G b s 331 t.heap) ∧ va_F (cA b (b + 1)) st t
set_option maxHeartbeats 4000000 in
theorem z_call2 {ad : xAd} {A : Nat → Prop} {k9 n9 : Nat} {p : Program} {l : Launch} {e : Env} {R : Room} {s : State} {m : MethodId} {args : Array Value} {below : List Frame} {meth : Method} {c : Code} {H : Heap} {locs : List Loc} {QQ : State → Prop} {pc : Nat} {ls : Array Slot} {rest st0 : List Value} {a : Array Value} {G : xG} {Qc : Option Value → xSt → Prop} (hr : va_Run p l e R s m args below meth c H locs k9 n9 0 0 (F0 m pc ls st0) rest (zxQ ad G Qc a) (zxW ad)) (hA : ∀ q, zxW ad q → A q) (hS : va_S A s.heap H locs)
    (kk : ∀ (v : Option Value) (σ' : xSt) (H1 : Heap) (locs1 : List Loc), Qc v σ' → zxP ad G σ' H1 → H.size ≤ H1.size → (∀ q, q < H.size → ¬ zxW ad q → H1[q]? = H[q]?) → va_S A s.heap H1 locs1 → W p l e R s m args below meth c H1 locs1 k9 n9 QQ (F0 m (pc + 3) ls (v.toList ++ rest))) : W p l e R s m args below meth c H locs k9 n9 QQ (F0 m pc ls st0) := by
  intro T hT X
  obtain ⟨v, st₀, t, T', L, h0, X', hL, e1, e2, ⟨⟨v', σ', hv, hq, hP⟩, hz, hk⟩, st⟩ := hr T hT X
  cases hv
  rw [h0] at hz hk
  obtain ⟨t2, a1, b1⟩ := kk v σ' T'.heap (locs ++ L) hq (by rw [e1]; exact hP) (by rw [e1]; exact hz) (fun q h1 h2 => by rw [e1]; exact hk q h1 h2)
    ⟨Nat.le_trans hS.1 (by rw [e1]; exact hz), fun q h1 h2 => by rw [e1, hk q (Nat.lt_of_lt_of_le h1 hS.1) (fun z => h2 (hA q z))]; exact hS.2.1 q h1 h2, fun q hq => by
      rcases List.mem_append.mp hq with h | h
      · exact hS.2.2 q h
      · exact hA _ (hL q h)⟩ T' rfl X'
  exact ⟨t2, st t2 a1, b1⟩
set_option maxHeartbeats 4000000 in
theorem j_stone {E : xE} {fr lo b cl sl pc : Nat} {L : List (Nat × Value)} {fs : List Value} {rows : Nat → va_E} (X : CX E cX6_init 2 RX6 fr lo b (b + 1)) (XZ : CZ E (sQ (eG E) b)) (hr : 2 + 1 ≤ fr ∧ 8 + (3 + 11) + 43 ≤ lo) (hfs : fs = x_fl (adS b) s0 6 0) (hrows : ∀ k, k < 330 → rows k = rowE (eG E) b s0 (1 + k)) (hc : cl = eK E) (hs : sl = eN E) (d1 : decode cX6_init pc = .ok (.invokevirtual 75, 3)) (d2 : decode cX6_init (pc + 3) = .ok (.return_, 1)) : JC E 6 b (b + 1) rows pc L [.ref b] fs 330 cl sl := by
  obtain ⟨p, l, e, R, s, m, args, below, meth, c9, ⟨Z, A, k9, n9⟩, G⟩ := E
  intro H locs ls h1 h2 h3
  obtain ⟨hx, hb, hml, hown, hts, hV, hrt, hini, hlk, g1, g2, g3, g4, hA, hz, hlt⟩ := X
  have hc : cl = k9 := hc
  have hs : sl = n9 := hs
  subst hc hs
  have XZ : Z = fun _ => MQ below (sQ G b) args s cl sl A := XZ
  have rw0 : RW G b s0 331 H := fun k hk => by
    rcases Nat.eq_zero_or_pos k with q | q
    · subst q
      have g := h2.2.1
      rw [hfs] at g
      rw [rowE_o (K := 0) (o := 0) (c := 6) rfl rfl (by decide) rfl]
      exact g
    · have g := h2.2.2 (k - 1) (by omega)
      rw [hrows (k - 1) (by omega)] at g
      rw [show 1 + (k - 1) = k by omega, show b + 1 + (k - 1) = b + k by omega] at g
      exact g
  have hP := rw0.z
  have hAA : ∀ q, zxW (adS b) q → A q := fun q h => by
    obtain ⟨o, f, r, hd, e⟩ := h
    rw [hA, e]
    unfold cA adS
    omega
  have wp : d6_readStone s0 (fun s' => sP s') := l6_readStone VT_td0 X6_s0 fun s' a1 a2 => ⟨a1, a2⟩
  have e0 : adS b 0 0 0 = b := rfl
  have hm := zk6_readStone (ad := adS b) (G := G) (l := l) wp
  have rc : ∃ cellB : Cell, H[b]? = some cellB ∧ cellB.vm.isStatics = false ∧ s.vm.findClass RX6 = some cellB.cls := va_recv (q := (RX6, TX6, 16)) (a := adS b 0 0 0) hV.1.1 (hP.one (z_ent_o (o := 0) (c := 6) rfl (by decide))) rfl (q0 := 0) rfl
  refine z_call2 (va_runV (Ts := x_big) (As := []) (rest := []) (b := b) ⟨hx, hb, hml, hown, hts⟩ hm ⟨callB_of 0 hts (x_gin mc_6_readStone) rfl rfl rfl (hts _ mn_6) (hts _ ml_6_75) ⟨by decide +kernel, by decide +kernel, by decide +kernel⟩ ⟨Nat.le_trans hr.1 g1, Nat.le_trans hr.2 g2⟩, hts _ mi_6_readStone, hts _ mv_6_readStone⟩ ⟨z_blind, rc, z_pre hP hV.1 zxJ_S hAA h3⟩ rfl rfl (h1.1.trans hml) rfl (lv_room (Nat.le_of_ble_eq_true rfl)) d1 ⟨g3, g4⟩) hAA h3 (fun v σ1 H1 locs1 q gz hsz hq S1 => ?_)
  obtain ⟨q1, q2⟩ := q
  subst q1
  subst XZ hA
  exact W.vret hx hb hrt (fun t ht hW => ⟨rfl, by rw [ht]; have := h2.1; omega, ⟨σ1, q2, by rw [ht]; exact rw0.back q2 gz hq⟩, S1.F ht⟩) S1.2.2 d2 hlk
