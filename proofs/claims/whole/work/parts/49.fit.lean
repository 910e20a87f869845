-- what was seen comes out so
def sq (b : Bl) (t : Td) (i : Nat) : Bool := decide ((tsn t i).2.1 < bm b) && decide (ps (s_run b ((tsn t i).1 + 1)) (tsn t i).2.1 = (tsn t i).2.2)
def sa (b : Bl) (t : Td) : Nat → Bool
  | 0 => true
  | n + 1 => sa b t n && sq b t n
set_option maxHeartbeats 4000000 in
theorem sa_f {b : Bl} {t : Td} {j : Nat} (h : sq b t j = false) : ∀ n, j < n → sa b t n = false := by
  intro n
  induction n with
  | zero => intro q; omega
  | succ n ih =>
    intro q
    unfold sa
    rcases Nat.lt_or_ge j n with c | c
    · rw [ih c]; rfl
    · have : j = n := by omega
      subst this
      rw [h, Bool.and_false]
set_option maxHeartbeats 4000000 in
theorem l2_ofMemberB {c h k : Nat} {b : Bl} {a : Int32} {s : xSt} {Q : Int32 → xSt → Prop} (hb : VB b) (n2 : N2 c b 20 s) (hh : h < 20) (hk : k < 8) (hk2 : bm b ≤ k) (hq : Q (-1) s) : d2_ofMember c (nI h) (nI k) a s Q := by
  unfold d2_ofMember
  refine l6_isHour hh (br_f (by decide) (br_f (nI_pos (by omega)) (br_f (nle (a := 8) (by omega) (by omega)) ?_)))
  rw [n2.1.1]
  exact br_f (nlt hk2 (by omega)) hq
set_option maxHeartbeats 4000000 in
theorem l4_comeOutSo {t : Td} {b : Bl} {s : xSt} {Q : Int32 → xSt → Prop} (hT : VT t) (hC : PC0 t s) (hb : VB b) (n2 : N2 6 b 20 s) (hq : Q (if sa b t (tns t) = true then 1 else 0) s) : d4_comeOutSo 6 s Q := by
  have hn := hT.2.2.2.2.1
  have r := hC.2.2.2.1
  unfold d4_comeOutSo
  refine lp0 (fun n i (_ : Unit) => d4_comeOutSo_L8 6 (fun s10 => Q 1 s10) Q n (nI i) s) (fun i _ => sa b t i = true) (tns t) (by omega) ?_ ?_ () rfl
  · intro n _ h
    rw [d4_comeOutSo_L8, r.1]
    rw [if_pos h] at hq
    exact br_t (Int32.le_refl _) hq
  · intro n i _ hi h ih
    have v := hT.2.2.2.2.2.1 i hi
    have x := r.2 i hi
    rw [d4_comeOutSo_L8, r.1, ncl (by omega), x.1, x.2.1]
    refine br_f (nle hi (by omega)) (br_f (nle (a := 8) (by omega) (by omega)) ⟨nin (by omega) (by omega), nin (by omega) (by omega), ?_⟩)
    have bad : sq b t i = false → Q 0 s := fun z => by
      rw [sa_f z _ hi] at hq; exact hq
    have good : sq b t i = true → ∀ v9 : Int32, v9 = nI i + 1 → d4_comeOutSo_L8 6 (fun s10 => Q 1 s10) Q n v9 s := fun z v9 e => by
      rw [nI_1] at e; subst e
      exact ih () (by show (sa b t i && sq b t i) = true; rw [h, z]; rfl)
    by_cases c : (tsn t i).2.1 < bm b
    · refine l2_ofMember (w := 0) hb n2 v.1 c (by omega) ⟨nin (by omega) (by omega), ?_⟩
      rw [x.2.2]
      show (nI (ps (s_run b ((tsn t i).1 + 1)) (tsn t i).2.1) = nI (tsn t i).2.2 → _) ∧ (¬ nI (ps (s_run b ((tsn t i).1 + 1)) (tsn t i).2.1) = nI (tsn t i).2.2 → _)
      have l := (VS.run hb ((tsn t i).1 + 1) (by omega)).2.1 _ c
      rw [nI_eq (by omega) (by omega)]
      refine ⟨fun q => good ?_, fun q => bad ?_⟩
      · unfold sq; rw [decide_eq_true c, decide_eq_true q]; rfl
      · unfold sq; rw [decide_eq_false q, Bool.and_false]
    · refine l2_ofMemberB hb n2 v.1 v.2.1 (by omega) ⟨nin (by omega) (by omega), ?_⟩
      rw [x.2.2]
      refine br_f (fun z => nI_nm (by omega) z.symm) (bad ?_)
      unfold sq; rw [decide_eq_false c, Bool.false_and]
set_option maxHeartbeats 4000000 in
theorem l7_isSeen {t : Td} {b : Bl} {s : xSt} {Q : Int32 → xSt → Prop} (hT : VT t) (hM : PM t s) (hb : VB b) (hB : B7 b s) (hE : E7 b s) (hq : ∀ s', N7 b s' → PM t s' → xk kr7 s s' → Q (if sa b t (tns t) = true then 1 else 0) s') : d7_isSeen s Q := by
  have hn := hT.2.2.2.2.1
  have hm := hb.1
  unfold d7_isSeen
  refine l7_runs hb hB hE fun s1 n7 k1 => ?_
  have p1 := hM.st7 k1
  have r := p1.2.2.1
  have fin := hq s1 n7 p1 k1
  refine lp0 (fun n i (_ : Unit) => d7_isSeen_L8 (fun v15 s14 => (v15 = 0 ∨ v15 = 1) ∧ Q v15 s14) Q n (if sa b t i = true then 1 else 0) (nI i) s1) (fun _ _ => True) (tns t) (by omega) ?_ ?_ () trivial
  · intro n _ _
    rw [d7_isSeen_L8, r.1]
    refine br_t (Int32.le_refl _) ⟨?_, fin⟩
    split
    · exact Or.inr rfl
    · exact Or.inl rfl
  · intro n i _ hi _ ih
    have ih := ih () trivial
    have e : sa b t (i + 1) = (sa b t i && sq b t i) := rfl
    have v := hT.2.2.2.2.2.1 i hi
    have x := r.2 i hi
    rw [d7_isSeen_L8, r.1]
    refine br_f (nle hi (by omega)) ?_
    cases z : sa b t i
    · refine br_t rfl ⟨Or.inl rfl, ?_⟩
      have : sa b t (tns t) = false := by
        have : ∀ n, i ≤ n → sa b t n = false := by
          intro n
          induction n with
          | zero => intro w; have : i = 0 := by omega
                    subst this; exact z
          | succ n ih2 =>
            intro w
            rcases Nat.lt_or_ge n i with c | c
            · have : i = n + 1 := by omega
              subst this; exact z
            · unfold sa; rw [ih2 c]; rfl
        exact this _ (by omega)
      rw [this] at fin
      exact fin
    · rw [e, z, Bool.true_and] at ih
      refine br_f (by decide) ⟨nin (by omega) (by omega), ?_⟩
      rw [ncl (a := i) (by omega), n7.1.1, x.1, x.2.1, x.2.2]
      rw [show (8 : Int32) * nI (tsn t i).1 + nI (tsn t i).2.1 = nI (8 * (tsn t i).1 + (tsn t i).2.1) by rw [l_8, pk_mul, nI_add], ncl (a := 8 * (tsn t i).1 + (tsn t i).2.1) (by omega)]
      by_cases c : (tsn t i).2.1 < bm b
      · refine br_f (nle c (by omega)) ⟨nin (by omega) (by omega), nin (by omega) (by omega), nin (by omega) (by omega), nin (by omega) (by omega), ?_⟩
        have l := (VS.run hb ((tsn t i).1 + 1) (by omega)).2.1 _ c
        rw [(n7.2 (tsn t i).1 v.1).1 _ c, nI_eq (by omega) (by omega)]
        refine ⟨fun q => ?_, fun q => ?_⟩
        · have : sq b t i = false := by unfold sq; rw [decide_eq_false q, Bool.and_false]
          rw [this] at ih
          intro v9 e9; rw [nI_1] at e9; subst e9; exact ih
        · have : sq b t i = true := by unfold sq; rw [decide_eq_true c, decide_eq_true q]; rfl
          rw [this] at ih
          intro v9 e9; rw [nI_1] at e9; subst e9; exact ih
      · have : sq b t i = false := by unfold sq; rw [decide_eq_false c, Bool.false_and]
        rw [this] at ih
        refine br_t (nI_le (by omega) (by omega)) ?_
        intro v9 e9; rw [nI_1] at e9; subst e9; exact ih
/-- bits of a row of answers -/
def bits (f : Nat → Bool) : Nat → Int32
  | 0 => 0
  | i + 1 => bits f i ||| (if f i = true then 1 <<< (nI i &&& 31) else 0)
set_option maxHeartbeats 4000000 in
theorem bits_jn {f : Nat → Bool} {i : Nat} {P : Int32 → Prop} (h : P (bits f (i + 1))) : ((if f i = true then (1 : Int32) else 0) = 0 → ∀ v : Int32, v = bits f i ||| 0 → P v) ∧ (¬ (if f i = true then (1 : Int32) else 0) = 0 → ∀ v : Int32, v = bits f i ||| (1 <<< (nI i &&& 31)) → P v) := by
  have e : bits f (i + 1) = bits f i ||| (if f i = true then 1 <<< (nI i &&& 31) else 0) := rfl
  rw [e] at h
  cases z : f i
  · rw [z] at h
    exact br_t rfl (fun v e => by subst e; exact h)
  · rw [z] at h
    exact br_f (by decide) (fun v e => by subst e; exact h)
-- subsets of the events
def sB (b : Bl) (L : List Ev) : Bl := (b.1, b.2.1, b.2.2.1, b.2.2.2.1, b.2.2.2.2.1, L)
def b_w (t : Td) (m : Nat) : Bl := sB (bt t) (kl (tg t) (fun j => !(m.testBit j)) (tne t))
set_option maxHeartbeats 4000000 in
theorem VB_w {t : Td} {m : Nat} (hT : VT t) : VB (b_w t m) := by
  have h := VB_bt hT
  refine ⟨h.1, h.2.1, h.2.2.1, h.2.2.2.1, h.2.2.2.2.1, fun e he => ?_⟩
  have he : e ∈ kl (tg t) (fun j => !(m.testBit j)) (tne t) := he
  obtain ⟨j, hj, q⟩ := List.mem_map.mp he
  subst q
  exact hT.2.2.2.1 j (List.mem_range.mp (List.mem_filter.mp hj).1)
set_option maxHeartbeats 4000000 in
theorem bit_not : ∀ m, m < 256 → ∀ k, k < 8 → ((nI m ^^^ -1) >>> (nI k &&& 31)) &&& 1 = if m.testBit k = true then 0 else 1 := by decide +kernel
set_option maxHeartbeats 4000000 in
theorem mk1 : ∀ e, e < 8 → (1 : Int32) <<< (nI e &&& 31) = nI (2 ^ e) ∧ 2 ^ e < 256 := by decide
set_option maxHeartbeats 4000000 in
theorem mk2 : ∀ a, a < 8 → ∀ b, b < 8 → ((1 : Int32) <<< (nI a &&& 31)) ||| (1 <<< (nI b &&& 31)) = nI (2 ^ a ||| 2 ^ b) ∧ 2 ^ a ||| 2 ^ b < 256 := by decide
set_option maxHeartbeats 4000000 in
theorem l1_takeNot {t : Td} {m : Nat} {b : Bl} {s : xSt} {Q : xSt → Prop} (hT : VT t) (hm : m < 256) (h : PC0 t s) (hC : CL 4 b s) (hb : ∀ L, sB b L = sB (bt t) L) (hq : ∀ s', CL 4 (b_w t m) s' → xk k4 s s' → Q s') : d1_takeEvents 4 3 (nI m ^^^ -1) s Q := by
  have hn := hT.2.2.1
  refine l1_takeEvents (n := tne t) (g := tg t) (keep := fun j => !(m.testBit j)) (by omega) h.2.2.1.1 h.2.2.1.2 (fun e he => ?_) fun s' p k => ?_
  · rw [bit_not m hm e (by omega)]
    cases m.testBit e
    · exact ⟨fun _ => rfl, fun _ => rfl⟩
    · exact ⟨fun q => absurd q (by decide), fun q => by cases q⟩
  · have c : CL 4 (sB b (kl (tg t) (fun j => !(m.testBit j)) (tne t))) s' := ⟨by rw [k.1 4 4 rfl]; exact hC.1, by rw [k.2.1 4 1 rfl]; exact hC.2.1, by rw [k.2.1 4 0 rfl]; exact hC.2.2.1, by rw [k.2.1 4 2 rfl]; exact hC.2.2.2.1, by rw [k.2.1 4 3 rfl]; exact hC.2.2.2.2.1, p⟩
    rw [hb] at c
    exact hq s' c (k4e_4 k)
set_option maxHeartbeats 4000000 in
theorem E7_w {t : Td} {m : Nat} {s : xSt} (hT : VT t) (hm : m < 256) (h : E7t t s) (s1 : xSt) (h12 : xI s1 13 12 = xI s 13 12) (h16 : xI s1 13 16 = nI m) (hA : xA s1 = xA s) : E7 (b_w t m) s1 := by
  have hn := hT.2.2.1
  refine ⟨tne t, tg t, fun j => m.testBit j, by omega, by rw [h12]; exact h.1, by rw [hA]; exact h.2.1, fun e he => ?_, rfl, hT.2.2.2.1⟩
  rw [h16, bit_at m hm e (by omega)]
  show _ ↔ m.testBit e = true
  cases m.testBit e
  · exact ⟨fun q => absurd q (by decide), fun q => by cases q⟩
  · exact ⟨fun _ => rfl, fun _ => rfl⟩
