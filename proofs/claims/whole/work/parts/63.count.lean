-- count
def sS (f : Nat → Int32) : Nat → Int32
  | 0 => 0
  | i + 1 => sS f i + f i
def spF (b : Bl) (k : Nat) : Int32 := nI (sc (s_run b 20) k)
def ayF (b : Bl) (h : Nat) : Int32 := nI (ay b h)
set_option maxHeartbeats 4000000 in
theorem l2_speeches {c : Nat} {b : Bl} {s : xSt} {Q : Int32 → xSt → Prop} (hb : VB b) (n2 : N2 c b 20 s) (hq : Q (sS (spF b) (bm b)) s) : d2_speechesInAll c s Q := by
  have hm := hb.1
  unfold d2_speechesInAll
  refine lp0 (fun n i (_ : Unit) => d2_speechesInAll_L4 c (fun v6 s5 => Q v6 s5) Q n (sS (spF b) i) (nI i) s) (fun _ _ => True) (bm b) (by omega) ?_ ?_ () trivial
  · intro n _ _
    rw [d2_speechesInAll_L4, n2.1.1]
    exact br_t (Int32.le_refl _) hq
  · intro n i _ hi _ ih
    rw [d2_speechesInAll_L4, n2.1.1, ncl (by omega), n2.1.2.2.2.2.2.2.1 i hi]
    refine br_f (nle hi (by omega)) ⟨nin (by omega) (by omega), ?_⟩
    intro v3 e3 v4 e4
    rw [nI_1] at e4
    subst e3 e4
    exact ih () trivial
set_option maxHeartbeats 4000000 in
theorem l2_ayesAll {c : Nat} {b : Bl} {s : xSt} {Q : Int32 → xSt → Prop} (n2 : N2 c b 20 s) (hq : Q (sS (ayF b) 20) s) : d2_ayesInAll c s Q := by
  unfold d2_ayesInAll
  refine lp0 (fun n i (_ : Unit) => d2_ayesInAll_L4 c (fun v6 s5 => Q v6 s5) Q n (sS (ayF b) i) (nI i) s) (fun _ _ => True) 20 (by omega) ?_ ?_ () trivial
  · intro n _ _
    rw [d2_ayesInAll_L4]
    exact br_t (Int32.le_refl _) hq
  · intro n i _ hi _ ih
    rw [d2_ayesInAll_L4, ncl (by omega), (n2.2 i hi).2.2.2.2.2.2.1]
    refine br_f (nle (a := 20) hi (by omega)) ⟨nin (by omega) (by omega), ?_⟩
    intro v3 e3 v4 e4
    rw [nI_1] at e4
    subst e3 e4
    exact ih () trivial
set_option maxHeartbeats 4000000 in
theorem l7_sumOf {t : Td} {a : Int32} {s : xSt} {Q : Int32 → xSt → Prop} (hT : VT t) (hM : PM t s) (hq : ∀ s', PM t s' → xk kS s s' → (¬ a = 0 → (¬ a = 4 → (¬ a = 5 → Q (nI (t_fg t)) s') ∧ (a = 5 → Q (sS (ayF (bt t)) 20) s')) ∧ (a = 4 → Q (sS (spF (bt t)) (t_m t)) s')) ∧ (a = 0 → Q (nI (t_m t)) s')) : d7_sumOf a s Q := by
  have hm := t_m_le hT
  unfold d7_sumOf
  refine l7_runsTold hT hM fun s1 n7 f1 p1 k1 => ?_
  have fin := hq s1 p1 k1
  refine lp0 (fun n i (_ : Unit) => d7_sumOf_L11 a 0 _ Q n (sS (spF (bt t)) i) (nI i) s1) (fun _ _ => True) (t_m t) (by omega) ?_ ?_ () trivial
  rotate_left
  · intro n i _ hi _ ih
    rw [d7_sumOf_L11, n7.1.1, bt_m, ncl (by omega), n7.1.2.2.2.2.2.2.1 i hi]
    refine br_f (nle hi (by omega)) ⟨nin (by omega) (by omega), ?_⟩
    intro v3 e3 v4 e4
    rw [nI_1] at e4
    subst e3 e4
    exact ih () trivial
  intro n _ _
  rw [d7_sumOf_L11, n7.1.1]
  refine br_t (Int32.le_refl _) ?_
  clear n
  refine lp0 (fun n i (_ : Unit) => d7_sumOf_L39 a (sS (spF (bt t)) (t_m t)) _ Q n (sS (ayF (bt t)) i) (nI i) s1) (fun _ _ => True) 20 (by omega) ?_ ?_ () trivial
  · intro n _ _
    rw [d7_sumOf_L39]
    refine br_t (Int32.le_refl _) ?_
    rw [f1, n7.1.1]
    exact fin
  · intro n i _ hi _ ih
    rw [d7_sumOf_L39, ncl (by omega), (n7.2 i hi).2.2.2.2.2.1]
    refine br_f (nle (a := 20) hi (by omega)) ⟨nin (by omega) (by omega), ?_⟩
    intro v3 e3 v4 e4
    rw [nI_1] at e4
    subst e3 e4
    exact ih () trivial
