-- what holds at the law's entry
set_option maxHeartbeats 4000000 in
set_option maxRecDepth 100000 in
theorem lw_nf : ∀ q ∈ x_nf, x_nfw q ∈ lw_tbl := List.forall_mem_cons.mpr ⟨x_t1 (List.mem_of_getElem? (i := 43) rfl), List.forall_mem_cons.mpr ⟨x_t1 (List.mem_of_getElem? (i := 45) rfl), List.forall_mem_cons.mpr ⟨x_t1 (List.mem_of_getElem? (i := 47) rfl), List.forall_mem_cons.mpr ⟨x_t1 (List.mem_of_getElem? (i := 49) rfl), List.forall_mem_cons.mpr ⟨x_t1 (List.mem_of_getElem? (i := 51) rfl), List.forall_mem_cons.mpr ⟨x_t1 (List.mem_of_getElem? (i := 52) rfl), List.forall_mem_cons.mpr ⟨x_t1 (List.mem_of_getElem? (i := 54) rfl), List.forall_mem_cons.mpr ⟨x_t1 (List.mem_of_getElem? (i := 56) rfl), List.forall_mem_cons.mpr ⟨x_t1 (List.mem_of_getElem? (i := 58) rfl), List.forall_mem_cons.mpr ⟨x_t1 (List.mem_of_getElem? (i := 60) rfl), List.forall_mem_cons.mpr ⟨x_t1 (List.mem_of_getElem? (i := 61) rfl), List.forall_mem_cons.mpr ⟨x_t1 (List.mem_of_getElem? (i := 155) rfl), List.forall_mem_cons.mpr ⟨x_t1 (List.mem_of_getElem? (i := 172) rfl), List.forall_mem_cons.mpr ⟨x_t1 (List.mem_of_getElem? (i := 174) rfl), List.forall_mem_cons.mpr ⟨x_t1 (List.mem_of_getElem? (i := 190) rfl), List.forall_mem_cons.mpr ⟨x_t1 (List.mem_of_getElem? (i := 192) rfl), fun _ h => absurd h List.not_mem_nil⟩⟩⟩⟩⟩⟩⟩⟩⟩⟩⟩⟩⟩⟩⟩⟩
set_option maxHeartbeats 4000000 in
set_option maxRecDepth 100000 in
theorem lw_nm : ∀ q ∈ x_nm, x_nmw q ∈ lw_tbl := List.forall_mem_cons.mpr ⟨x_t1 (List.mem_of_getElem? (i := 38) rfl), List.forall_mem_cons.mpr ⟨x_t1 (List.mem_of_getElem? (i := 83) rfl), List.forall_mem_cons.mpr ⟨x_t1 (List.mem_of_getElem? (i := 147) rfl), List.forall_mem_cons.mpr ⟨x_t1 (List.mem_of_getElem? (i := 167) rfl), List.forall_mem_cons.mpr ⟨x_t1 (List.mem_of_getElem? (i := 184) rfl), List.forall_mem_cons.mpr ⟨x_t1 (List.mem_of_getElem? (i := 220) rfl), List.forall_mem_cons.mpr ⟨x_t2 (List.mem_of_getElem? (i := 218) rfl), List.forall_mem_cons.mpr ⟨x_t2 (List.mem_of_getElem? (i := 227) rfl), fun _ h => absurd h List.not_mem_nil⟩⟩⟩⟩⟩⟩⟩⟩
set_option maxHeartbeats 4000000 in
theorem lw_ty {s : State} {args : Array Value} (hts : ∀ w ∈ lw_tbl, w.before args s = true) : ∃ D : ClassId × ClassId × ClassId × ClassId, ∀ (k : Nat) (q : ClassId × FieldType), ([(D.1, .int), (D.2.1, .boolean), (D.2.2.1, .object "WoodliceSenate$Sheet"), (D.2.2.2, .array .int)] : List (ClassId × FieldType))[k]? = some q → ArrOfT s q.1 q.2 ∧ va_RA s q.1 q.2 := by
  obtain ⟨cI, kI, pI, i1, i2, i3⟩ := Cond.arrayClass_spec (hts _ (x_t1 (List.mem_of_getElem? (i := 35) rfl)))
  obtain ⟨cZ, kZ, pZ, z1, z2, z3⟩ := Cond.arrayClass_spec (hts _ (x_t1 (List.mem_of_getElem? (i := 144) rfl)))
  obtain ⟨pS, cS, kS, s1, s2, s3, s4, s5⟩ := Cond.arrayOver_spec (hts _ (x_t1 (List.mem_of_getElem? (i := 181) rfl)))
  obtain ⟨pA, cA, kA, a1, a2, a3, a4, a5⟩ := arrayOverA_spec (hts _ (x_t1 (List.mem_of_getElem? (i := 88) rfl)))
  refine ⟨(cI, cZ, cS, cA), ?_⟩
  intro k q hq
  match k, hq with
  | 0, hq => cases hq; exact ⟨fun n z => ⟨fun k h => (by cases h), kI, i2, pI, i3⟩, i1⟩
  | 1, hq => cases hq; exact ⟨fun n z => ⟨fun k h => (by cases h), kZ, z2, pZ, z3⟩, z1⟩
  | 2, hq => cases hq; exact ⟨fun n z => ⟨fun k h => (by cases h), kS, s3, pS, s4⟩, ⟨kS, pS, s3, s4, s1, s5⟩⟩
  | 3, hq => cases hq; exact ⟨fun n z => ⟨fun k h => (by cases h), kA, a3, pA, a4⟩, a5⟩
  | k + 4, hq => simp at hq
set_option maxHeartbeats 4000000 in
theorem lw_G {s : State} {args : Array Value} (hts : ∀ w ∈ lw_tbl, w.before args s = true) : ∃ G : xG, va_K G.1 x_cls (x_tys G) s := by
  have hts2 : ∀ w ∈ x_big, w.before args s = true := fun w h => hts w (x_mem2 h)
  have hk : ∀ k : Nat, ∃ (cC : ClassId) (iS : Nat → Nat), ∀ q : vw_C, x_cls[k]? = some q → u_Kn s q.1 q.2.1 q.2.2 cC iS := by
    intro k
    match k with
    | 0 => obtain ⟨c, i, h⟩ := u_known hts2 inX0 (hts2 _ mna_0); exact ⟨c, i, fun q hq => by cases hq; exact h⟩
    | 1 => obtain ⟨c, i, h⟩ := u_known hts2 inX1 (hts2 _ mna_1); exact ⟨c, i, fun q hq => by cases hq; exact h⟩
    | 2 => obtain ⟨c, i, h⟩ := u_known hts2 inX2 (hts2 _ mna_2); exact ⟨c, i, fun q hq => by cases hq; exact h⟩
    | 3 => obtain ⟨c, i, h⟩ := u_known hts2 inX3 (hts2 _ mna_3); exact ⟨c, i, fun q hq => by cases hq; exact h⟩
    | 4 => obtain ⟨c, i, h⟩ := u_known hts2 inX4 (hts2 _ mna_4); exact ⟨c, i, fun q hq => by cases hq; exact h⟩
    | 5 => obtain ⟨c, i, h⟩ := u_known hts2 inX5 (hts2 _ mna_5); exact ⟨c, i, fun q hq => by cases hq; exact h⟩
    | 6 => obtain ⟨c, i, h⟩ := u_known hts2 inX6 (hts2 _ mna_6); exact ⟨c, i, fun q hq => by cases hq; exact h⟩
    | 7 => obtain ⟨c, i, h⟩ := u_known hts2 inX7 (hts2 _ mna_7); exact ⟨c, i, fun q hq => by cases hq; exact h⟩
    | k + 8 => exact ⟨0, fun _ => 0, fun q hq => by simp at hq⟩
  obtain ⟨D, hD⟩ := lw_ty hts
  exact ⟨((fun k => Classical.choose (hk k), fun k => Classical.choose (Classical.choose_spec (hk k))), D), fun k q hq => Classical.choose_spec (Classical.choose_spec (hk k)) q hq, hD⟩
set_option maxHeartbeats 4000000 in
set_option maxRecDepth 100000 in
theorem lw_V {s : State} {args : Array Value} (hts : ∀ w ∈ lw_tbl, w.before args s = true) (hgv : (Jvm.Cond.and given_1 narrow_1).before args s = true) {G : xG} (hK : va_K G.1 x_cls (x_tys G) s) : cV G (fun q => s.heap.size ≤ q) s s.heap := by
  have hs := flat_of_before _ hgv
  have hA : ∀ a : Nat, a < s.heap.size → ¬ (fun q : Nat => s.heap.size ≤ q) a := fun a h q => absurd h (Nat.not_lt.mpr q)
  have e0 : (Cond.eq (.elem (.static "WoodliceSenate" "DIGEST_HOURS" "[I") (.int 0)) (.int 0)).before args s = true := hs _ (by decide +kernel)
  have e1 : (Cond.eq (.elem (.static "WoodliceSenate" "DIGEST_HOURS" "[I") (.int 1)) (.int 7)).before args s = true := hs _ (by decide +kernel)
  have e2 : (Cond.eq (.elem (.static "WoodliceSenate" "DIGEST_HOURS" "[I") (.int 2)) (.int 19)).before args s = true := hs _ (by decide +kernel)
  have e3 : (Cond.eq (.length (.static "WoodliceSenate" "DIGEST_HOURS" "[I")) (.int 3)).before args s = true := hs _ (by decide +kernel)
  have e4 : (Cond.arrayOf (.static "WoodliceSenate" "DIGEST_HOURS" "[I") .int).before args s = true := hs _ (by decide +kernel)
  obtain ⟨t, ht, hT⟩ := va_Tof (N := 3) (f := x_dh) (A := fun q => s.heap.size ≤ q) (by decide) e4 (va_eqt e3) (fun j hj => by
    rcases (show j = 0 ∨ j = 1 ∨ j = 2 by omega) with rfl | rfl | rfl
    · exact va_eqt e0
    · exact va_eqt e1
    · exact va_eqt e2) hA
  refine ⟨⟨hK, fun q hq => va_Nw.of rfl (hts _ (lw_nf q hq)), fun q hq => va_Nw.of rfl (hts _ (lw_nm q hq)), t, ?_, hT⟩, va_AO.of (hts _ (x_t1 (List.mem_of_getElem? (i := 181) rfl))), zAA.of (hts _ (x_t1 (List.mem_of_getElem? (i := 88) rfl)))⟩
  exact va_Zof (hts _ (x_t4 (List.mem_of_getElem? (i := 57) rfl))) (hts _ (x_t1 (List.mem_of_getElem? (i := 1) rfl))) ht hA
/-- where the class's world and the model's lie -/
def adL (b b' : Nat) : xAd := fun o f r => if o = 13 then b' + ix o f r else b + ix o f r
set_option maxHeartbeats 4000000 in
theorem adL_13 (b b' f r : Nat) : adL b b' 13 f r = adS b' 13 f r := rfl
set_option maxHeartbeats 4000000 in
theorem adL_o {b b' o f r : Nat} (h : ¬ o = 13) : adL b b' o f r = adS b o f r := if_neg h
set_option maxHeartbeats 4000000 in
theorem xJ_L {b b' : Nat} (h : b ≤ b') : xJ (adL b b') := by
  intro o f r o' f' r' d d' e
  have g := ix_lt d
  have g' := ix_lt d'
  unfold adL at e
  by_cases c : o = 13
  · by_cases c' : o' = 13
    · rw [if_pos c, if_pos c'] at e
      exact ix_inj d d' (by omega)
    · rw [if_pos c, if_neg c'] at e
      have := g.1 c
      have := g'.2 c'
      omega
  · by_cases c' : o' = 13
    · rw [if_neg c, if_pos c'] at e
      have := g.2 c
      have := g'.1 c'
      omega
    · rw [if_neg c, if_neg c'] at e
      exact ix_inj d d' (by omega)
set_option maxHeartbeats 4000000 in
theorem x_fl_ad {ad ad' : xAd} {s : xSt} {c o : Nat} (h : ∀ o f r, ¬ o = 13 → ad o f r = ad' o f r) (ho : ¬ o = 13) : x_fl ad s c o = x_fl ad' s c o := by
  unfold x_fl
  have q := fun f r => h o f r ho
  have q1 := fun f r => h 1 f r (by decide)
  have q2 := fun f r => h 2 f r (by decide)
  have q3 := fun f r => h 3 f r (by decide)
  have q4 := fun f r => h 4 f r (by decide)
  have q5 := fun f r => h 5 f r (by decide)
  have q6 := fun f r => h 6 f r (by decide)
  have q7 := fun f r => h 7 f r (by decide)
  have q8 := fun f r => h 8 f r (by decide)
  split <;> simp only [q, q1, q2, q3, q4, q5, q6, q7, q8]
set_option maxHeartbeats 4000000 in
theorem x_sh_ad {ad ad' : xAd} (h : ∀ o f r, ¬ o = 13 → ad o f r = ad' o f r) : x_sh ad = x_sh ad' := funext fun j => by
  unfold x_sh
  by_cases c : j < 4
  · rw [if_pos c, if_pos c, h (9 + j) 0 0 (by omega)]
  · rw [if_neg c, if_neg c]
set_option maxHeartbeats 4000000 in
theorem x_q_ad {ad ad' : xAd} {o k : Nat} (h : ∀ f r, ad o f r = ad' o f r) : x_q ad o k = x_q ad' o k := funext fun j => by
  unfold x_q
  rw [h]
set_option maxHeartbeats 4000000 in
theorem x_ent_ad {ad ad' : xAd} {G : xG} {s : xSt} {o f r : Nat} (h : ∀ o f r, ¬ o = 13 → ad o f r = ad' o f r) (ho : ¬ o = 13) : x_ent ad G s o f r = x_ent ad' G s o f r := by
  cases f with
  | zero => cases r with
    | zero => simp only [x_ent, x_fl_ad h ho]
    | succ r => rfl
  | succ k => cases r with
    | zero => simp only [x_ent, x_sh_ad h, x_q_ad (o := o) (k := k) (fun f r => h o f r ho)]
    | succ r => rfl
set_option maxHeartbeats 4000000 in
theorem x_ar7_01 : ∀ k, k < 42 → (match x_ar7 13 k with | some (a, _) => decide (a ≤ 1) | none => true) = true := by decide +kernel
set_option maxHeartbeats 4000000 in
theorem x_ent_ad13 {ad ad' : xAd} {G : xG} {s : xSt} {f r : Nat} (h : ∀ f r, ad 13 f r = ad' 13 f r) : x_ent ad G s 13 f r = x_ent ad' G s 13 f r := by
  cases f with
  | zero => cases r with
    | zero =>
      have : x_fl ad s 7 13 = x_fl ad' s 7 13 := by
        unfold x_fl
        simp only [h]
      show (if x_cl 13 < 8 then some (Sum.inr (x_cl 13, x_fl ad s 7 13)) else none) = (if x_cl 13 < 8 then some (Sum.inr (x_cl 13, x_fl ad' s 7 13)) else none)
      rw [this]
    | succ r => rfl
  | succ k => cases r with
    | zero =>
      rcases Nat.lt_or_ge k 42 with c | c
      · have g := x_ar7_01 k c
        have e : x_ar (x_cl 13) 13 k = x_ar7 13 k := rfl
        simp only [x_ent, e, x_q_ad (o := 13) (k := k) h]
        split
        · rfl
        · rfl
        · rfl
        · rename_i a n n0 n1 n2 q
          rw [q] at g
          have g := of_decide_eq_true g
          have z0 : ¬ a = 0 := fun z => by subst z; first | exact n0 _ rfl | exact n0 rfl | exact n0 rfl rfl | exact n0 _ rfl rfl
          have z1 : ¬ a = 1 := fun z => by subst z; first | exact n1 _ rfl | exact n1 rfl | exact n1 rfl rfl | exact n1 _ rfl rfl
          omega
        · rfl
      · have e : x_ar (x_cl 13) 13 k = none := gd_out c
        simp only [x_ent, e]
    | succ r => rfl
set_option maxHeartbeats 4000000 in
set_option maxRecDepth 100000 in
theorem xP_L {G : xG} {b b' : Nat} {s : xSt} {H : Heap} (h1 : RW G b s 331 H) (h2 : ∀ k, k < 35 → va_at G.1 x_cls (b' + 331 + k, rowE G b' s0 (331 + k)) H) (hp : sP s) : xP (adL b b') G s H := by
  have key : ∀ K, K < 366 → 331 ≤ K → va_at G.1 x_cls (b' + K, rowE G b' s K) H := fun K k1 k2 => by
    have g := h2 (K - 331) (by omega)
    rw [show 331 + (K - 331) = K by omega, ← rowE_same k1 hp.2 (by omega), show b' + 331 + (K - 331) = b' + K by omega] at g
    exact g
  intro o f r e he
  have hd := x_ent_dom he
  have hl := ix_lt hd
  obtain ⟨g1, g2⟩ := ix_iv hd
  by_cases c : o = 13
  · subst c
    rw [x_ent_ad13 (adL_13 b b')] at he
    have hg := hl.1 rfl
    have g := key _ g1 hg
    rw [rowE_of g2 he] at g
    exact g
  · rw [x_ent_ad (fun _ _ _ q => adL_o q) c] at he
    have g := h1 (ix o f r) (hl.2 c)
    rw [rowE_of g2 he] at g
    rw [adL_o c]
    exact g
set_option maxHeartbeats 4000000 in
theorem xW_L {b b' : Nat} (h : b ≤ b') {q : Nat} (hq : xW (adL b b') q) : b ≤ q := by
  obtain ⟨o, f, r, -, rfl⟩ := hq
  unfold adL
  split <;> omega
set_option maxHeartbeats 4000000 in
theorem RR_0 {s : xSt} (h : sP s) : RR s := by
  obtain ⟨h1, h2⟩ := h
  obtain ⟨hI, hB, hA⟩ := k60_I h2
  have tm : t_m td0 = 0 := by
    unfold t_m
    have : tn1 td0 = 0 := rfl
    simp only [this]
    split <;> rfl
  refine ⟨td0, VT_td0, ⟨⟨⟨hI 1 1, fun j hj => absurd hj (Nat.not_lt_zero j), hI 2 1, fun j hj => absurd hj (Nat.not_lt_zero j)⟩, ⟨?_, h1⟩, ⟨hI 3 8, fun e he => absurd he (Nat.not_lt_zero e)⟩, ⟨hI 7 3, fun e he => absurd he (Nat.not_lt_zero e)⟩, ?_, hI 0 12⟩, Or.inl (hI 0 11)⟩, ⟨hA 13 0 (by omega) ▸ rfl, fun j hj => absurd hj (Nat.not_lt_zero j), hA 13 0 (by omega) ▸ rfl, fun j hj => absurd hj (Nat.not_lt_zero j)⟩, ⟨hI 13 8, fun e he => absurd he (Nat.not_lt_zero e)⟩, ⟨hI 13 31, fun e he => absurd he (Nat.not_lt_zero e)⟩, ?_, hI 13 41⟩
  · rw [tm]
    exact ⟨hI 3 4, fun k hk => absurd hk (Nat.not_lt_zero k), fun k hk => absurd hk (Nat.not_lt_zero k), fun k hk => absurd hk (Nat.not_lt_zero k)⟩
  · intro k hk
    rcases (show k = 0 ∨ k = 1 ∨ k = 2 ∨ k = 3 by omega) with rfl | rfl | rfl | rfl
    · exact ⟨hI 9 1, hI 9 2, fun j hj => absurd hj (Nat.not_lt_zero j)⟩
    · exact ⟨hI 10 1, hI 10 2, fun j hj => absurd hj (Nat.not_lt_zero j)⟩
    · exact ⟨hI 11 1, hI 11 2, fun j hj => absurd hj (Nat.not_lt_zero j)⟩
    · exact ⟨hI 12 1, hI 12 2, fun j hj => absurd hj (Nat.not_lt_zero j)⟩
  · intro k hk
    have z : tsf td0 k = -1 := rfl
    refine ⟨?_, fun q => absurd z q, fun q => absurd z q, fun q => absurd z q⟩
    rw [if_pos z, hA 13 36 (by omega)]
    rfl
