-- chance
set_option maxHeartbeats 4000000 in
theorem both8 {t t' : Td} {a : Int64} {σ : xSt} {D6 D7 : xSt → (Int64 → xSt → Prop) → Prop} (hM : PM t σ) (hV : VT t') (c : ∀ Q, (∀ s', PC t' s' → xk kR σ s' → Q a s') → D6 σ Q) (m : ∀ s1 Q, PM t s1 → (∀ s', PM t' s' → xk kS s1 s' → Q a s') → D7 s1 Q) : D6 σ (fun r s1 => D7 s1 (fun r' s2 => r = r' ∧ RR s2)) :=
  c _ fun s1 p1 k1 => m s1 _ (hM.stR k1) fun s2 p2 k2 => ⟨rfl, t', hV, p1.stS k2, p2⟩
set_option maxHeartbeats 4000000 in
theorem same8 {t : Td} {s : xSt} {a : Int64} {D6 D7 : xSt → (Int64 → xSt → Prop) → Prop} (hT : VT t) (hC : PC t s) (hM : PM t s) (c : ∀ Q : Int64 → xSt → Prop, Q a s → D6 s Q) (m : ∀ Q : Int64 → xSt → Prop, Q a s → D7 s Q) : D6 s (fun r s1 => D7 s1 (fun r' s2 => r = r' ∧ RR s2)) :=
  c _ (m _ ⟨rfl, t, hT, hC, hM⟩)
def wy (c m : Nat) : Nat → Nat
  | 0 => 1
  | e + 1 => wy c m e * (if m.testBit e = true then c else 16 - c)
set_option maxHeartbeats 4000000 in
theorem wy_s (c m e : Nat) : wy c m (e + 1) = wy c m e * (if m.testBit e = true then c else 16 - c) := rfl
set_option maxHeartbeats 4000000 in
theorem wy_le {c m : Nat} (hc : c ≤ 16) : ∀ e, wy c m e ≤ 16 ^ e := by
  intro e
  induction e with
  | zero => exact Nat.le_refl _
  | succ e ih =>
    rw [wy_s, Nat.pow_succ]
    exact Nat.mul_le_mul ih (by split <;> omega)
set_option maxHeartbeats 4000000 in
theorem wy_le8 {c m e : Nat} (hc : c ≤ 16) (he : e ≤ 8) : wy c m e ≤ 4294967296 := Nat.le_trans (wy_le hc e) (Nat.le_trans (Nat.pow_le_pow_right (by decide) he) (by decide))
def sm (f : Nat → Nat) : Nat → Nat
  | 0 => 0
  | i + 1 => sm f i + f i
set_option maxHeartbeats 4000000 in
theorem sm_s (f : Nat → Nat) (i : Nat) : sm f (i + 1) = sm f i + f i := rfl
set_option maxHeartbeats 4000000 in
theorem sm_le {f : Nat → Nat} {B : Nat} (h : ∀ i, f i ≤ B) : ∀ n, sm f n ≤ n * B := by
  intro n
  induction n with
  | zero => exact Nat.zero_le _
  | succ n ih => have := h n; rw [sm_s, Nat.succ_mul]; omega
set_option maxHeartbeats 4000000 in
theorem sm_head (g : Nat → Nat) : ∀ n, sm g (n + 1) = g 0 + sm (fun i => g (i + 1)) n := by
  intro n
  induction n with
  | zero => show sm g 0 + g 0 = g 0 + 0; show 0 + g 0 = g 0 + 0; omega
  | succ n ih => rw [sm_s, ih, sm_s]; omega
set_option maxHeartbeats 4000000 in
theorem sm_ext {f g : Nat → Nat} : ∀ n, (∀ i, i < n → f i = g i) → sm f n = sm g n := by
  intro n
  induction n with
  | zero => intro _; rfl
  | succ n ih => intro h; rw [sm_s, sm_s, ih (fun i hi => h i (by omega)), h n (by omega)]
set_option maxHeartbeats 4000000 in
theorem sm_rev (f : Nat → Nat) : ∀ n, sm (fun i => f (n - (i + 1))) n = sm f n := by
  intro n
  induction n with
  | zero => rfl
  | succ n ih =>
    rw [sm_head, sm_s]
    have e : sm (fun i => f (n + 1 - (i + 1 + 1))) n = sm (fun i => f (n - (i + 1))) n := sm_ext n fun i hi => by
      show f _ = f _
      congr 1
      omega
    rw [e, ih, Nat.add_sub_cancel]
    omega
def b_k (t : Td) (m : Nat) : Bl := sB (bt t) (kl (tg t) (fun j => m.testBit j) (tne t))
set_option maxHeartbeats 4000000 in
theorem VB_k {t : Td} {m : Nat} (hT : VT t) : VB (b_k t m) := by
  have h := VB_bt hT
  refine ⟨h.1, h.2.1, h.2.2.1, h.2.2.2.1, h.2.2.2.2.1, fun e he => ?_⟩
  have he : e ∈ kl (tg t) (fun j => m.testBit j) (tne t) := he
  obtain ⟨j, hj, q⟩ := List.mem_map.mp he
  subst q
  exact hT.2.2.2.1 j (List.mem_range.mp (List.mem_filter.mp hj).1)
set_option maxHeartbeats 4000000 in
theorem len_k {t : Td} {m : Nat} (hT : VT t) : (be (b_k t m)).length ≤ 9 := Nat.le_trans (kl_le _ _ _) (Nat.le_trans hT.2.2.1 (by omega))
set_option maxHeartbeats 4000000 in
theorem l1_takeKeep {t : Td} {m : Nat} {b : Bl} {s : xSt} {Q : xSt → Prop} (hT : VT t) (hm : m < 256) (h : PC0 t s) (hC : CL 4 b s) (hb : ∀ L, sB b L = sB (bt t) L) (hq : ∀ s', CL 4 (b_k t m) s' → xk k4 s s' → Q s') : d1_takeEvents 4 3 (nI m) s Q := by
  have hn := hT.2.2.1
  refine l1_takeEvents (n := tne t) (g := tg t) (keep := fun j => m.testBit j) (by omega) h.2.2.1.1 h.2.2.1.2 (fun e he => ?_) fun s' p k => ?_
  · rw [bit_at m hm e (by omega)]
    cases m.testBit e
    · exact ⟨fun q => absurd q (by decide), fun q => by cases q⟩
    · exact ⟨fun _ => rfl, fun _ => rfl⟩
  · have c : CL 4 (sB b (kl (tg t) (fun j => m.testBit j) (tne t))) s' := ⟨by rw [k.1 4 4 rfl]; exact hC.1, by rw [k.2.1 4 1 rfl]; exact hC.2.1, by rw [k.2.1 4 0 rfl]; exact hC.2.2.1, by rw [k.2.1 4 2 rfl]; exact hC.2.2.2.1, by rw [k.2.1 4 3 rfl]; exact hC.2.2.2.2.1, p⟩
    rw [hb] at c
    exact hq s' c (k4e_4 k)
set_option maxHeartbeats 4000000 in
theorem l6_waysOf {c m n : Nat} {s : xSt} {Q : Int64 → xSt → Prop} (h8 : xI s 3 8 = nI n) (hn : n ≤ 8) (hm : m < 256) (hc : c ≤ 16) (hq : Q (lN (wy c m n)) s) : d6_waysOf (nI m) (nI c) s Q := by
  unfold d6_waysOf
  refine lp0 (fun k e (_ : Unit) => d6_waysOf_L5 (nI m) (nI c) (fun v9 s8 => Q v9 s8) Q k (lN (wy c m e)) (nI e) s) (fun _ _ => True) n (by omega) ?_ ?_ () trivial
  · intro k _ _
    rw [d6_waysOf_L5, h8]
    exact br_t (Int32.le_refl _) hq
  · intro k e _ he _ ih
    have ih := ih () trivial
    rw [d6_waysOf_L5, h8, bit_at m hm e (by omega)]
    rw [wy_s] at ih
    refine br_f (nle he (by omega)) ?_
    unfold jn
    by_cases z : m.testBit e = true
    · rw [if_pos z] at ih ⊢
      refine bn_t rfl ?_
      intro v5 e5 v6 e6
      rw [nI_l (show c < 2147483648 by omega), lN_mul] at e5
      rw [nI_1] at e6
      subst e5 e6; exact ih
    · rw [if_neg z] at ih ⊢
      refine bn_f (by decide) ?_
      intro v5 e5 v6 e6
      rw [show (16 : Int32) - nI c = nI (16 - c) from pk_sub (a := 16) hc, nI_l (show 16 - c < 2147483648 by omega), lN_mul] at e5
      rw [nI_1] at e6
      subst e5 e6; exact ih
set_option maxHeartbeats 4000000 in
theorem l7_waysOf {c m n h : Nat} {a3 : Int32} {a4 : Int64} {s : xSt} {K Q : Int64 → xSt → Prop} (h8 : xI s 13 8 = nI n) (hn : n ≤ 8) (hm : m < 256) (hc : c ≤ 16) (hq : K (lN (wy (16 - c) m n)) s) : d7_chanceOf_L27 (nI c) (nI h) a3 a4 (nI m) K Q x_lim 1 0 s := by
  refine lp0 (fun k e (_ : Unit) => d7_chanceOf_L27 (nI c) (nI h) a3 a4 (nI m) K Q k (lN (wy (16 - c) m e)) (nI e) s) (fun _ _ => True) n (by omega) ?_ ?_ () trivial
  · intro k _ _
    rw [d7_chanceOf_L27, h8]
    exact br_t (Int32.le_refl _) hq
  · intro k e _ he _ ih
    have ih := ih () trivial
    unfold d7_isIn at *
    rw [d7_chanceOf_L27, h8]
    unfold d7_isIn
    rw [bit_at m hm e (by omega)]
    rw [wy_s] at ih
    refine br_f (nle he (by omega)) ?_
    unfold jn
    by_cases z : m.testBit e = true
    · rw [if_pos z] at ih ⊢
      refine bn_t rfl (br_f (by decide) ?_)
      intro v5 e5 v6 e6
      rw [show (16 : Int32) - nI c = nI (16 - c) from pk_sub (a := 16) hc, nI_l (show 16 - c < 2147483648 by omega), lN_mul] at e5
      rw [nI_1] at e6
      subst e5 e6; exact ih
    · rw [if_neg z] at ih ⊢
      rw [show 16 - (16 - c) = c by omega] at ih
      refine bn_f (by decide) (br_t rfl ?_)
      intro v5 e5 v6 e6
      rw [nI_l (show c < 2147483648 by omega), lN_mul] at e5
      rw [nI_1] at e6
      subst e5 e6; exact ih
set_option maxHeartbeats 4000000 in
theorem mk3 : ∀ n, n < 9 → (1 : Int32) <<< (nI n &&& 31) = nI (2 ^ n) ∧ 2 ^ n ≤ 256 := by decide
set_option maxHeartbeats 4000000 in
theorem mk4 : ∀ n, n < 9 → (1 : Int64) <<< ((4 * nI n).toInt64 &&& 63) = lN (2 ^ (4 * n)) := by decide +kernel
def chF (t : Td) (c h m : Nat) : Nat := if ca (b_k t m) h = true then wy c m (tne t) else 0
def chG (t : Td) (c h m : Nat) : Nat := if ca (b_w t m) h = true then wy (16 - c) m (tne t) else 0
set_option maxHeartbeats 4000000 in
theorem ch_rev {t : Td} {c h m : Nat} (hc : c ≤ 16) (hm : m < 2 ^ tne t) : chG t c h m = chF t c h (2 ^ tne t - (m + 1)) := by
  have tb : ∀ e, e < tne t → (2 ^ tne t - (m + 1)).testBit e = !(m.testBit e) := fun e he => by
    rw [Nat.testBit_two_pow_sub_succ hm, decide_eq_true he, Bool.true_and]
  have ew : ∀ e, e ≤ tne t → wy (16 - c) m e = wy c (2 ^ tne t - (m + 1)) e := by
    intro e
    induction e with
    | zero => intro _; rfl
    | succ e ih =>
      intro he
      rw [wy_s, wy_s, ih (by omega), tb e (by omega)]
      congr 1
      cases m.testBit e
      · simp only [Bool.false_eq_true, if_false, Bool.not_false, if_true]; omega
      · simp only [if_true, Bool.not_true, Bool.false_eq_true, if_false]
  have eb : b_w t m = b_k t (2 ^ tne t - (m + 1)) := by
    unfold b_w b_k
    congr 1
    unfold kl
    congr 1
    refine List.filter_congr fun e he => ?_
    rw [tb e (List.mem_range.mp he)]
  unfold chF chG
  rw [eb, ew _ (Nat.le_refl _)]
set_option maxHeartbeats 4000000 in
theorem chF_le {t : Td} {c h m : Nat} (hT : VT t) (hc : c ≤ 16) : chF t c h m ≤ 4294967296 := by
  have := wy_le8 (m := m) hc hT.2.2.1
  unfold chF; split <;> omega
def chS (t : Td) (c h : Nat) : Nat := sm (chF t c h) (2 ^ tne t)
set_option maxHeartbeats 4000000 in
theorem chS_G {t : Td} {c h : Nat} (hc : c ≤ 16) : sm (chG t c h) (2 ^ tne t) = chS t c h := by
  unfold chS
  rw [← sm_rev (chF t c h)]
  exact sm_ext _ fun i hi => ch_rev hc hi
set_option maxHeartbeats 4000000 in
theorem chS_le {t : Td} {c h : Nat} (hT : VT t) (hc : c ≤ 16) : chS t c h < 2 ^ 62 := by
  have p := (mk3 (tne t) (by have := hT.2.2.1; omega)).2
  have q : chS t c h ≤ 2 ^ tne t * 4294967296 := sm_le (fun i => chF_le hT hc) _
  have r : 2 ^ tne t * 4294967296 ≤ 256 * 4294967296 := Nat.mul_le_mul_right _ p
  omega
set_option maxHeartbeats 4000000 in
theorem l2_carriesT {c h : Nat} {b : Bl} {s : xSt} {Q : Int32 → xSt → Prop} (hb : VB b) (x : T2 c b h (s_run b (h + 1)) s) (hh : h < 20) (hq : Q (if ca b h = true then 1 else 0) s) : d2_carries c (nI h) s Q := by
  have g1 := ay_le hb h
  have g2 := no_le hb h
  unfold d2_carries
  refine l6_isHour hh (br_f (by decide) ⟨nin hh (by omega), nin hh (by omega), ?_⟩)
  rw [ncl (by omega), x.2.2.2.2.2.2.1, x.2.2.2.2.2.2.2]
  show (nI (ay b h) ≤ nI (no b h) → _) ∧ (¬ nI (ay b h) ≤ nI (no b h) → _)
  by_cases q : no b h < ay b h
  · rw [show ca b h = true from decide_eq_true q] at hq
    exact br_f (nle q (by omega)) hq
  · rw [show ca b h = false from decide_eq_false q] at hq
    exact br_t (nI_le (by omega) (by omega)) hq
set_option maxHeartbeats 4000000 in
theorem l6_waysCarried {t : Td} {c h : Nat} {s : xSt} {Q : Int64 → xSt → Prop} (hT : VT t) (hC : PC t s) (hc : c ≤ 16) (hh : h < 20) (hq : ∀ s', xk kX s s' → Q (lN (chS t c h)) s') : d6_waysCarried (nI c) (nI h) s Q := by
  have hn := hT.2.2.1
  have m3 := mk3 (tne t) (by omega)
  unfold d6_waysCarried
  refine l1_takeAll hT hC.1 fun s1 c1 k1 => ?_
  refine lp0 (fun n i s2 => d6_waysCarried_L16 (nI c) (nI h) (fun v18 s17 => Q v18 s17) Q n (lN (sm (chF t c h) i)) (nI i) s2) (fun i s2 => (∃ b, CL 4 b s2 ∧ ∀ L, sB b L = sB (bt t) L) ∧ xk kX s s2) (2 ^ tne t) (by omega) ?_ ?_ s1 ⟨⟨bt t, c1, fun _ => rfl⟩, k4_X k1⟩
  · intro n s2 ⟨_, h2⟩
    rw [d6_waysCarried_L16, h2.1 3 8 rfl, hC.1.2.2.1.1, m3.1]
    exact br_t (Int32.le_refl _) (hq s2 h2)
  · intro n i s2 hi ⟨⟨b, h1, hb⟩, h2⟩ ih
    have h8 : xI s2 3 8 = nI (tne t) := by rw [h2.1 3 8 rfl]; exact hC.1.2.2.1.1
    have wl := wy_le8 (c := c) (m := i) hc hn
    have e0 : lN (wy c i (tne t)) = 0 ↔ wy c i (tne t) = 0 := pk_lEQ (b := 0) (by omega) (by omega)
    rw [d6_waysCarried_L16, h8, m3.1]
    refine br_f (nle hi (by omega)) (l6_waysOf h8 hn (by omega) hc ?_)
    rw [lg_cmp_eq, e0]
    rw [sm_s] at ih
    refine ⟨fun z => ?_, fun z => ?_⟩
    · refine l1_takeKeep (m := i) hT (by omega) (hC.stX h2).1 h1 hb fun s3 c3 k3 => ?_
      rw [nI_1 h]
      refine l2_sit (by decide) (VB_k hT) (c3.c1 (len_k hT)) (by omega) fun s4 n4 k4 => ?_
      refine l2_carriesT (VB_k hT) (n4.2 h (by omega)) hh ?_
      have x4 := (h2.tr (k4_X k3)).tr (kw6_X k4)
      have ih := ih s4 ⟨⟨b_k t i, c3.keep k4 (fun _ _ => rfl), fun _ => rfl⟩, x4⟩
      unfold chF at ih
      unfold jn
      by_cases y : ca (b_k t i) h = true
      · rw [if_pos y] at ih ⊢
        refine br_f (by decide) ?_
        intro v13 e13 v14 e14
        rw [lN_add] at e13
        rw [nI_1] at e14
        subst e13 e14; exact ih
      · rw [if_neg y] at ih ⊢
        refine br_t rfl ?_
        intro v13 e13 v14 e14
        rw [show (0 : Int64) = lN 0 from rfl, lN_add] at e13
        rw [nI_1] at e14
        subst e13 e14; exact ih
    · intro v16 e16
      rw [nI_1] at e16; subst e16
      have ez : chF t c h i = 0 := by unfold chF; rw [z]; split <;> rfl
      rw [ez, Nat.add_zero] at ih
      exact ih s2 ⟨⟨b, h1, hb⟩, h2⟩
set_option maxHeartbeats 4000000 in
theorem l7_waysL {t : Td} {c h : Nat} {a3 : Int32} {s : xSt} {K Q : Int64 → xSt → Prop} (hT : VT t) (hW : W7 t s) (hc : c ≤ 16) (hh : h < 20) (hq : ∀ s', PM t s' → xk kS s s' → K (lN (chS t c h)) s') : d7_chanceOf_L10 (nI c) (nI h) a3 K Q x_lim 0 0 s := by
  have hn := hT.2.2.1
  have m3 := mk3 (tne t) (by omega)
  rw [← chS_G hc] at hq
  refine lp0 (fun n i s2 => d7_chanceOf_L10 (nI c) (nI h) a3 K Q n (lN (sm (chG t c h) i)) (nI i) s2) (fun i s2 => W7 t s2 ∧ xk kS s s2) (2 ^ tne t) (by omega) ?_ ?_ s ⟨hW, xk.rf⟩
  · intro n s2 ⟨h1, h2⟩
    rw [d7_chanceOf_L10, h1.1.2.1.1, m3.1]
    exact br_t (Int32.le_refl _) (hq s2 h1.1 h2)
  · intro n i s2 hi ⟨h1, h2⟩ ih
    have wl := wy_le8 (c := 16 - c) (m := i) (by omega) hn
    have e0 : lN (wy (16 - c) i (tne t)) ≤ 0 ↔ wy (16 - c) i (tne t) ≤ 0 := pk_lLE (b := 0) (by omega) (by omega)
    rw [d7_chanceOf_L10, h1.1.2.1.1, m3.1]
    refine br_f (nle hi (by omega)) (l7_waysOf h1.1.2.1.1 hn (by omega) hc ?_)
    rw [lg_cmp_le, e0]
    rw [sm_s] at ih
    refine ⟨fun z => ?_, fun z => ?_⟩
    · intro v16 e16
      rw [nI_1] at e16; subst e16
      have ez : chG t c h i = 0 := by unfold chG; rw [Nat.le_zero.mp z]; split <;> rfl
      rw [ez, Nat.add_zero] at ih
      exact ih s2 ⟨h1, h2⟩
    · intro s16 e16
      obtain ⟨w, b, e, k⟩ := h1.e7 (m := i) hT (by omega) e16
      refine l7_runs (VB_w hT) b e fun s17 n17 k17 => l7_isCarried (VB_w hT) n17 hh ?_
      have ih := ih s17 ⟨w.st7 k17, (h2.tr (kP7_S k)).tr (kr7_S k17)⟩
      unfold chG at ih
      unfold jn
      by_cases y : ca (b_w t i) h = true
      · rw [if_pos y] at ih ⊢
        refine br_f (by decide) ?_
        intro v13 e13 v14 e14
        rw [lN_add] at e13
        rw [nI_1] at e14
        subst e13 e14; exact ih
      · rw [if_neg y] at ih ⊢
        refine br_t rfl ?_
        intro v13 e13 v14 e14
        rw [show (0 : Int64) = lN 0 from rfl, lN_add] at e13
        rw [nI_1] at e14
        subst e13 e14; exact ih
/-- a chance: above, below -/
def chV (t : Td) (c h w : Nat) : Int64 := if w = 0 then lN (chS t c h / Nat.gcd (chS t c h) (2 ^ (4 * tne t))) else lN (2 ^ (4 * tne t) / Nat.gcd (chS t c h) (2 ^ (4 * tne t)))
set_option maxHeartbeats 4000000 in
theorem c_chance {t : Td} {c h w : Nat} {s : xSt} {Q : Int64 → xSt → Prop} (hT : VT t) (hC : PC t s) (hc : c ≤ 16) (hh : h < 20) (hw : w < 2) (hq : ∀ s', PC t s' → xk kR s s' → Q (chV t c h w) s') : d6_chance (nI c) (nI h) (nI w) s Q := by
  have hn := hT.2.2.1
  have ew : nI w = 0 ↔ w = 0 := nI_eq (b := 0) (by omega) (by omega)
  unfold d6_chance
  refine br_f (nI_pos (by omega)) (br_f (show ¬ (16 : Int32) < nI c from nlt (a := 16) hc (by omega)) (l6_isHour hh (br_f (by decide) (br_f (nI_pos (by omega)) (br_t (nI_le (b := 1) (by omega) (by omega)) (l6_waysCarried hT hC hc hh fun s8 k8 => ?_))))))
  intro v10 e10
  rw [k8.1 3 8 rfl, hC.1.2.2.1.1, mk4 _ (by omega)] at e10
  subst e10
  refine l6_halve (4 * tne t) 0 (chS t c h) x_lim (by omega) (by decide) (chS_le hT hc) ?_
  have q := hq s8 (hC.stX k8) (kX_R k8)
  unfold chV at q
  rw [ew]
  refine ⟨fun z => ?_, fun z => ?_⟩
  · rw [if_neg z] at q; exact q
  · rw [if_pos z] at q; exact q
set_option maxHeartbeats 4000000 in
theorem m_chance {t : Td} {c h w : Nat} {s : xSt} {Q : Int64 → xSt → Prop} (hT : VT t) (hM : PM t s) (hc : c ≤ 16) (hh : h < 20) (hw : w < 2) (hq : ∀ s', PM t s' → xk kS s s' → Q (chV t c h w) s') : d7_chanceOf (nI c) (nI h) (nI w) s Q := by
  have hn := hT.2.2.1
  have ew : nI w = 0 ↔ w = 0 := nI_eq (b := 0) (by omega) (by omega)
  unfold d7_chanceOf
  refine l7_asTold hT hM fun s2 b2 e2 _ p2 k2 => l7_waysL hT (W7.of p2 b2 e2) hc hh fun s3 p3 k3 => ?_
  rw [p3.2.1.1, mk4 _ (by omega)]
  refine l7_lowest (chS_le hT hc) (by omega) ?_
  have q := hq s3 p3 ((kT7_S k2).tr k3)
  unfold chV at q
  by_cases z : w = 0
  · rw [if_pos z] at q
    rw [if_pos (ew.mpr z)]; exact q
  · rw [if_neg z] at q
    rw [if_neg (fun y => z (ew.mp y))]; exact q
set_option maxHeartbeats 4000000 in
theorem no_2 : (-9223372036854775808 : Int64) - (-2 : Int32).toInt64 = -9223372036854775806 := by decide
set_option maxHeartbeats 4000000 in
theorem q_chance {a m w : Int32} {σ : xSt} (h : RR σ) : d6_chance a m w σ (fun r s1 => d7_chance a m w s1 (fun r' s2 => r = r' ∧ RR s2)) := by
  obtain ⟨t, hT, hC, hM⟩ := h
  by_cases c : ∃ j, j < 17 ∧ a = nI j
  rotate_left
  · exact same8 (D6 := d6_chance a m w) (D7 := d7_chance a m w) hT hC hM (a := -9223372036854775806) (fun Q q => ⟨fun _ => q, fun z => br_t (badM (n := 16) (by omega) c z) q⟩) (fun Q q => l7_inB (n := 16) (by omega) rfl c (br_t rfl (by unfold d7_no; rw [no_2]; exact q)))
  obtain ⟨i, hi, e⟩ := c
  subst e
  by_cases c : ∃ j, j < 20 ∧ m = nI j
  rotate_left
  · exact same8 (D6 := d6_chance (nI i) m w) (D7 := d7_chance (nI i) m w) hT hC hM (a := -9223372036854775806) (fun Q q => br_f (nI_pos (by omega)) (br_f (show ¬ (16 : Int32) < nI i from nlt (a := 16) (by omega) (by omega)) (l6_hourB c (br_t rfl q)))) (fun Q q => l7_inG (n := 16) (by omega) rfl hi (br_f (by decide) (l7_hourB c (br_t rfl (by unfold d7_no; rw [no_2]; exact q)))))
  obtain ⟨j, hj, e⟩ := c
  subst e
  by_cases d : ∃ k, k < 2 ∧ w = nI k
  rotate_left
  · exact same8 (D6 := d6_chance (nI i) (nI j) w) (D7 := d7_chance (nI i) (nI j) w) hT hC hM (a := -9223372036854775806) (fun Q q => br_f (nI_pos (by omega)) (br_f (show ¬ (16 : Int32) < nI i from nlt (a := 16) (by omega) (by omega)) (l6_isHour hj (br_f (by decide) ⟨fun _ => q, fun z => br_f (w_lt0 (n := 1) d (by omega) z) q⟩)))) (fun Q q => l7_inG (n := 16) (by omega) rfl hi (br_f (by decide) (l7_hourG hj (br_f (by decide) (l7_inB (n := 1) (by omega) rfl d (br_t rfl (by unfold d7_no; rw [no_2]; exact q)))))))
  obtain ⟨k, hk, e⟩ := d
  subst e
  exact both8 (D6 := d6_chance (nI i) (nI j) (nI k)) (D7 := d7_chance (nI i) (nI j) (nI k)) (a := chV t i j k) hM hT (fun Q hq => c_chance hT hC (by omega) hj hk hq) fun s1 Q p hq => l7_inG (n := 16) (by omega) rfl hi (br_f (by decide) (l7_hourG hj (br_f (by decide) (l7_inG (n := 1) (by omega) rfl hk (br_f (by decide) (m_chance hT p (by omega) hj hk hq))))))
