/-- the rows of now as told, any subset -/
def E7y (t : Td) (s : xSt) : Prop := xI s 13 12 = nI (tne t) ∧ ∀ e, e < tne t → xA s 13 13 e = nI (tg t e).1 ∧ xA s 13 14 e = nI (tg t e).2.1 ∧ xA s 13 15 e = nI (tg t e).2.2
def W7 (t : Td) (s : xSt) : Prop := PM t s ∧ B7 (bt t) s ∧ E7y t s
set_option maxHeartbeats 4000000 in
theorem W7.of {t : Td} {s : xSt} (p : PM t s) (b : B7 (bt t) s) (e : E7t t s) : W7 t s := ⟨p, b, e.1, e.2.1⟩
set_option maxHeartbeats 4000000 in
theorem W7.keep {t : Td} {s s1 : xSt} {kp : Nat → Nat → Nat → Bool} (h : W7 t s) (k : xk kp s s1) (hk : ∀ a c, kM a 13 c = true → kp a 13 c = true) (h0 : kp 0 13 4 = true) (h1 : kp 1 13 5 = true) (h2 : kp 1 13 3 = true) (h3 : kp 1 13 6 = true) (h4 : kp 1 13 7 = true) (h5 : kp 0 13 12 = true) (h6 : kp 1 13 13 = true) (h7 : kp 1 13 14 = true) (h8 : kp 1 13 15 = true) : W7 t s1 :=
  ⟨h.1.keep k hk, h.2.1.keep k h0 h1 h2 h3 h4, by rw [k.1 13 12 h5]; exact h.2.2.1, by rw [k.2.1 13 13 h6, k.2.1 13 14 h7, k.2.1 13 15 h8]; exact h.2.2.2⟩
set_option maxHeartbeats 4000000 in
theorem W7.st7 {t : Td} {s s1 : xSt} (h : W7 t s) (k : xk kr7 s s1) : W7 t s1 := ⟨h.1.st7 k, h.2.1.keep k rfl rfl rfl rfl rfl, by rw [k.1 13 12 rfl]; exact h.2.2.1, by rw [k.2.1 13 13 rfl, k.2.1 13 14 rfl, k.2.1 13 15 rfl]; exact h.2.2.2⟩
def kP7 (t o k : Nat) : Bool := !(o == 13 && ((t == 1 && k == 30) || (t == 0 && k == 16)))
set_option maxHeartbeats 4000000 in
theorem W7.stP {t : Td} {s s1 : xSt} (h : W7 t s) (k : xk kP7 s s1) : W7 t s1 := h.keep k (fun a c q => by
  simp only [kM, kP7, Bool.not_eq_true', Bool.and_eq_false_iff, Bool.or_eq_false_iff, beq_eq_false_iff_ne, decide_eq_false_iff_not, Bool.or_eq_true, Bool.and_eq_true, beq_iff_eq, decide_eq_true_eq] at q ⊢
  omega) rfl rfl rfl rfl rfl rfl rfl rfl rfl
set_option maxHeartbeats 4000000 in
theorem kP7_S {s s1 : xSt} (h : xk kP7 s s1) : xk kS s s1 := h.mono (fun t o k q => by
  simp only [kP7, kS, Bool.not_eq_true', Bool.and_eq_false_iff, beq_eq_false_iff_ne] at q ⊢
  exact Or.inl q)
set_option maxHeartbeats 4000000 in
/-- a run without a subset -/
theorem W7.e7 {t : Td} {m : Nat} {s s1 : xSt} (hT : VT t) (hm : m < 256) (h : W7 t s) (e : s1 = xsI s 13 16 (nI m)) : W7 t s1 ∧ B7 (b_w t m) s1 ∧ E7 (b_w t m) s1 ∧ xk kP7 s s1 := by
  have hn := hT.2.2.1
  have k : xk kP7 s s1 := by subst e; exact xk.rf.sI rfl
  have w := h.stP k
  refine ⟨w, w.2.1, ⟨tne t, tg t, fun j => m.testBit j, by omega, w.2.2.1, w.2.2.2, fun i hi => ?_, rfl, hT.2.2.2.1⟩, k⟩
  rw [show xI s1 13 16 = nI m by subst e; exact xI_xsI_eq _ _ _ _, bit_at m hm i (by omega)]
  show _ ↔ m.testBit i = true
  cases m.testBit i
  · exact ⟨fun q => absurd q (by decide), fun q => by cases q⟩
  · exact ⟨fun _ => rfl, fun _ => rfl⟩
set_option maxHeartbeats 4000000 in
theorem l7_isCalmM {t : Td} {m : Nat} {a : Int32} {s : xSt} {Q : Int32 → xSt → Prop} (hT : VT t) (hW : W7 t s) (hm : m < 256) (ha : a = nI m) (hq : ∀ s', W7 t s' → xA s' 13 30 = xA s 13 30 → xk kS s s' → Q (if clF t m = true then 1 else 0) s') : d7_isCalm a s Q := by
  subst ha
  unfold d7_isCalm
  intro s1 e1
  obtain ⟨w, b, e, k⟩ := hW.e7 hT hm e1
  refine l7_runs (VB_w hT) b e fun s2 n2 k2 => l7_carriedNow (VB_w hT) n2 ?_
  exact c20 (R := fun v => Q v s2) (hq s2 (w.st7 k2) (by rw [k2.2.1 13 30 rfl]; subst e1; rfl) ((kP7_S k).tr (kr7_S k2))) id id
/-- the reference's answer of calm -/
def CR (t : Td) (n : Int32) (s : xSt) : Prop := n = (cl t).1 ∧ (n = 1 → xA s 13 30 0 = (cl t).2.1 ∧ (cl t).2.2 = -1) ∧ (n = 2 → xA s 13 30 0 = (cl t).2.1 ∧ xA s 13 30 1 = (cl t).2.2) ∧ (n = 0 ∨ n = -1 → (cl t).2.1 = -1 ∧ (cl t).2.2 = -1) ∧ (n = 0 ∨ n = 1 ∨ n = 2 ∨ n = -1)
set_option maxHeartbeats 4000000 in
theorem l7_calmBy {t : Td} {s : xSt} {Q : Int32 → xSt → Prop} (hT : VT t) (hM : PM t s) (hq : ∀ n s', CR t n s' → PM t s' → xk kS s s' → Q n s') : d7_calmBy s Q := by
  have hn := hT.2.2.1
  unfold d7_calmBy
  refine l7_asTold hT hM fun s1 b1 e1 _ p1 k1 => ?_
  have w1 := W7.of p1 b1 e1
  refine l7_isCalmM (m := 0) hT w1 (by omega) rfl fun s2 w2 _ k2 => ?_
  have kk := (kT7_S k1).tr k2
  cases c0 : clF t 0
  rotate_left
  · refine br_f (by decide) (hq 0 s2 ?_ w2.1 kk)
    have e : cl t = (0, -1, -1) := by unfold cl; rw [c0]; rfl
    unfold CR; rw [e]
    exact ⟨rfl, fun q => absurd q (by decide), fun q => absurd q (by decide), fun _ => ⟨rfl, rfl⟩, Or.inl rfl⟩
  refine br_t rfl ?_
  refine lp0 (fun n i s3 => d7_calmBy_L16 _ Q n (nI i) s3) (fun i s3 => (∀ j, j < i → clF t (2 ^ j) = false) ∧ W7 t s3 ∧ xk kS s s3) (tne t) (by omega) ?_ ?_ s2 ⟨fun _ q => by omega, w2, kk⟩
  rotate_left
  · intro n i s3 hi ⟨h1, h2, h3⟩ ih
    have m1 := mk1 i (by omega)
    rw [d7_calmBy_L16, h2.1.2.1.1]
    refine br_f (nle hi (by omega)) ⟨v02, ?_⟩
    intro s7 e7
    have k7 : xk kP7 s3 s7 := by subst e7; exact xk.rf.uA rfl
    refine l7_isCalmM (m := 2 ^ i) hT (h2.stP k7) m1.2 m1.1 fun s8 w8 r8 k8' => ?_
    have k9 := (h3.tr (kP7_S k7)).tr k8'
    cases c1 : clF t (2 ^ i)
    · refine br_t rfl ?_
      intro v8 e8
      rw [nI_1] at e8
      subst e8
      refine ih s8 ⟨fun j hj => ?_, w8, k9⟩
      rcases Nat.lt_or_ge j i with q | q
      · exact h1 j q
      · have : j = i := by omega
        subst this; exact c1
    · refine br_f (by decide) (hq 1 s8 ?_ w8.1 k9)
      have e : cl t = (1, nI i, -1) := by
        unfold cl
        rw [c0, ff_some (P := fun a => clF t (2 ^ a)) h1 c1 (tne t) hi]; rfl
      have r : xA s8 13 30 0 = nI i := by rw [r8, e7, z0, xA_xuA_eq, upd_eq]
      unfold CR; rw [e]
      exact ⟨rfl, fun _ => ⟨r, rfl⟩, fun q => absurd q (by decide), fun q => absurd q (by decide), Or.inr (Or.inl rfl)⟩
  intro n s3 ⟨h1, h2, h3⟩
  rw [d7_calmBy_L16, h2.1.2.1.1]
  refine br_t (Int32.le_refl _) ?_
  clear n
  have none1 := ff_none (P := fun a => clF t (2 ^ a)) (tne t) h1
  refine lp0 (fun n i s4 => d7_calmBy_L51 _ Q n (nI i) s4) (fun i s4 => (∀ j, j < i → (clB t j).isSome = false) ∧ W7 t s4 ∧ xk kS s s4) (tne t) (by omega) ?_ ?_ s3 ⟨fun _ q => by omega, h2, h3⟩
  · intro n s4 ⟨g1, g2, g3⟩
    rw [d7_calmBy_L51, g2.1.2.1.1]
    refine br_t (Int32.le_refl _) (hq (-1) s4 ?_ g2.1 g3)
    have e : cl t = (-1, -1, -1) := by
      unfold cl
      rw [c0, none1, ff_none (P := fun a => (clB t a).isSome) (tne t) g1]; rfl
    unfold CR; rw [e]
    exact ⟨rfl, fun q => absurd q (by decide), fun q => absurd q (by decide), fun _ => ⟨rfl, rfl⟩, Or.inr (Or.inr (Or.inr rfl))⟩
  intro n i s4 hi ⟨g1, g2, g3⟩ ih
  rw [d7_calmBy_L51, g2.1.2.1.1]
  refine br_f (nle hi (by omega)) ?_
  intro v14 e14
  rw [nI_1] at e14
  subst e14
  refine lp (fun n j s5 => d7_calmBy_L63 (nI i) _ Q n (nI j) s5) (fun j s5 => (∀ l, l < j → (decide (i < l) && clF t (2 ^ i ||| 2 ^ l)) = false) ∧ i < j ∧ W7 t s5 ∧ xk kS s s5) (tne t) ?_ ?_ x_lim (i + 1) s4 (by omega) (by show tne t - (i + 1) < 1000; omega) ⟨fun l hl => by rw [decide_eq_false (by omega), Bool.false_and], by omega, g2, g3⟩
  · intro n s5 ⟨p1, p2, p3, p4⟩
    rw [d7_calmBy_L63, p3.1.2.1.1]
    refine br_t (Int32.le_refl _) ?_
    intro v20 e20
    rw [nI_1] at e20
    subst e20
    refine ih s5 ⟨fun j hj => ?_, p3, p4⟩
    rcases Nat.lt_or_ge j i with q | q
    · exact g1 j q
    · have : j = i := by omega
      subst this
      unfold clB
      rw [ff_none (P := fun b => decide (j < b) && clF t (2 ^ j ||| 2 ^ b)) (tne t) p1]; rfl
  · intro n j s5 hj ⟨p1, p2, p3, p4⟩ ih2
    have m2 := mk2 i (by omega) j (by omega)
    rw [d7_calmBy_L63, p3.1.2.1.1]
    refine br_f (nle hj (by omega)) ⟨v02, ?_⟩
    intro s17 e17
    refine ⟨v12, ?_⟩
    intro s19 e19
    have k19 : xk kP7 s5 s19 := by subst e19 e17; exact (xk.rf.uA rfl).uA rfl
    refine l7_isCalmM (m := 2 ^ i ||| 2 ^ j) hT (p3.stP k19) m2.2 m2.1 fun s20 w20 r20 k20 => ?_
    have k9 := (p4.tr (kP7_S k19)).tr k20
    cases c1 : clF t (2 ^ i ||| 2 ^ j)
    · refine br_t rfl ?_
      intro v8 e8
      rw [nI_1] at e8
      subst e8
      refine ih2 s20 ⟨fun l hl => ?_, by omega, w20, k9⟩
      rcases Nat.lt_or_ge l j with q | q
      · exact p1 l q
      · have : l = j := by omega
        subst this; rw [c1, Bool.and_false]
    · refine br_f (by decide) (hq 2 s20 ?_ w20.1 k9)
      have eb : clB t i = some j := ff_some (P := fun b => decide (i < b) && clF t (2 ^ i ||| 2 ^ b)) p1 (by show (decide (i < j) && clF t (2 ^ i ||| 2 ^ j)) = true; rw [decide_eq_true p2, c1]; rfl) (tne t) hj
      have e : cl t = (2, nI i, nI j) := by
        unfold cl
        rw [c0, none1, ff_some (P := fun a => (clB t a).isSome) g1 (by show (clB t i).isSome = true; rw [eb]; rfl) (tne t) hi]
        show (2, nI i, nI ((clB t i).getD 0)) = _
        rw [eb]; rfl
      have ra : xA s20 13 30 0 = nI i := by rw [r20, e19, z1, xA_xuA_eq, upd_ne (by decide), e17, z0, xA_xuA_eq, upd_eq]
      have rb : xA s20 13 30 1 = nI j := by rw [r20, e19, z1, xA_xuA_eq, upd_eq]
      unfold CR; rw [e]
      exact ⟨rfl, fun q => absurd q (by decide), fun _ => ⟨ra, rb⟩, fun q => absurd q (by decide), Or.inr (Or.inr (Or.inl rfl))⟩
set_option maxHeartbeats 4000000 in
theorem isN01 {a : Int32} (h0 : ¬ a < -1) (h1 : a ≤ 1) : a = -1 ∨ a = 0 ∨ a = 1 := by
  by_cases z : a < 0
  · left
    refine Int32.toInt_inj.mp ?_
    have x : ¬ a.toInt < -1 := fun q => h0 (Int32.lt_iff_toInt_lt.mpr q)
    have y : a.toInt < 0 := Int32.lt_iff_toInt_lt.mp z
    show a.toInt = -1
    omega
  · exact Or.inr (is01 z (Int32.not_lt.mpr h1))
set_option maxHeartbeats 4000000 in
theorem q_calm {a : Int32} {σ : xSt} (h : RR σ) : d6_calm a σ (fun r s1 => d7_calm a s1 (fun r' s2 => r = r' ∧ RR s2)) := by
  obtain ⟨t, hT, hC, hM⟩ := h
  by_cases d : ¬ a < -1 ∧ a ≤ 1
  rotate_left
  · refine same (D6 := d6_calm a) (D7 := d7_calm a) hT hC hM (a := -2) (fun Q q => ⟨fun _ => q, fun z => ⟨fun w => absurd ⟨z, w⟩ d, fun _ => q⟩⟩) (fun Q q => l7_in (fun _ => br_t rfl q) fun x y => absurd ⟨x, Int32.not_lt.mp y⟩ d)
  have w := isN01 d.1 d.2
  refine both (D6 := d6_calm a) (D7 := d7_calm a) (a := if a = -1 then (cl t).1 else if a = 0 then (cl t).2.1 else (cl t).2.2) hM hT (fun Q hq => ?_) fun s1 Q p hq => ?_
  · refine br_f d.1 (br_t d.2 (l6_findCalm hT hC fun s' e k => ?_))
    have q := hq s' (hC.stY k) (kY_R k)
    have e1 : xI s' 0 13 = (cl t).1 := by rw [← e]
    have e2 : xI s' 0 14 = (cl t).2.1 := by rw [← e]
    have e3 : xI s' 0 15 = (cl t).2.2 := by rw [← e]
    rw [e1, e2, e3]
    refine ⟨fun x => ⟨fun y => ?_, fun y => ?_⟩, fun x => ?_⟩
    · rw [if_neg x, if_neg y] at q; exact q
    · rw [if_neg x, if_pos y] at q; exact q
    · rw [if_pos x] at q; exact q
  · refine l7_in (fun z => ?_) fun _ _ => br_f (by decide) (l7_calmBy hT p fun n s' c p' k => ?_)
    · rcases z with z | z
      · exact absurd z d.1
      · exact absurd z (Int32.not_lt.mpr d.2)
    have q := hq s' p' k
    obtain ⟨c1, c2, c3, c4, c5⟩ := c
    unfold d7_ofRow
    rcases w with w | w | w
    · subst w
      rw [if_pos rfl] at q
      exact bn_t rfl (by rw [c1]; exact q)
    · subst w
      rw [if_neg (by decide), if_pos rfl] at q
      refine bn_f (by decide) ?_
      rcases c5 with x | x | x | x
      · subst x; rw [(c4 (Or.inl rfl)).1] at q; exact br_t (by decide) q
      · subst x; rw [← (c2 rfl).1] at q; exact br_f (by decide) ⟨v02, q⟩
      · subst x; rw [← (c3 rfl).1] at q; exact br_f (by decide) ⟨v02, q⟩
      · subst x; rw [(c4 (Or.inr rfl)).1] at q; exact br_t (by decide) q
    · subst w
      rw [if_neg (by decide), if_neg (by decide)] at q
      refine bn_f (by decide) ?_
      rcases c5 with x | x | x | x
      · subst x; rw [(c4 (Or.inl rfl)).2] at q; exact br_t (by decide) q
      · subst x; rw [(c2 rfl).2] at q; exact br_t (by decide) q
      · subst x; rw [← (c3 rfl).2] at q; exact br_f (by decide) ⟨v12, q⟩
      · subst x; rw [(c4 (Or.inr rfl)).2] at q; exact br_t (by decide) q
