-- the digest's parts, the class's side
def st (h : Int64) (v : Int32) : Int64 := 31 * h + v.toInt64
def cnF (t : Td) (i : Nat) : Int32 := match i with
  | 0 => nI (t_m t)
  | 1 => nI (tne t)
  | 2 => nI (tn0 t)
  | 3 => nI (tn1 t)
  | 4 => sS (spF (bt t)) (t_m t)
  | 5 => sS (ayF (bt t)) 20
  | 6 => nI (t_fg t)
  | _ => nI (tns t)
set_option maxHeartbeats 4000000 in
theorem c_count {t : Td} {i : Nat} {s : xSt} {Q : Int32 → xSt → Prop} (hT : VT t) (hC : PC t s) (hi : i < 8) (hq : ∀ s', PC t s' → xk kR s s' → Q (cnF t i) s') : d6_count (nI i) s Q := by
  have hb := VB_bt hT
  have q := hq s hC xk.rf
  rcases (show i = 0 ∨ i = 1 ∨ i = 2 ∨ i = 3 ∨ i = 4 ∨ i = 5 ∨ i = 6 ∨ i = 7 by omega) with c | c | c | c | c | c | c | c
  · subst c
    exact br_t rfl (by rw [hC.1.2.1.1.1]; exact q)
  · subst c
    exact br_f (by decide) (br_t rfl (by rw [hC.1.2.2.1.1]; exact q))
  · subst c
    exact br_f (by decide) (br_f (by decide) (br_t rfl (by unfold d5_size; rw [hC.1.1.1]; exact q)))
  · subst c
    exact br_f (by decide) (br_f (by decide) (br_f (by decide) (br_t rfl (by unfold d5_size; rw [hC.1.1.2.2.1]; exact q))))
  · subst c
    exact br_f (by decide) (br_f (by decide) (br_f (by decide) (br_f (by decide) (br_t rfl (l6_chamberAsTold hT hC fun s' p n k => l2_speeches hb n (hq s' p (kA5_R k)))))))
  · subst c
    exact br_f (by decide) (br_f (by decide) (br_f (by decide) (br_f (by decide) (br_f (by decide) (br_t rfl (l6_chamberAsTold hT hC fun s' p n k => l2_ayesAll n (hq s' p (kA5_R k))))))))
  · subst c
    refine br_f (by decide) (br_f (by decide) (br_f (by decide) (br_f (by decide) (br_f (by decide) (br_f (by decide) (br_t rfl (l6_faultOfStone hT hC.1.1 ?_)))))))
    have q : Q (nI (t_fg t)) s := q
    rcases ft0_c hT with ⟨c, d⟩ | ⟨c, d⟩
    · rw [d] at q
      refine bn_t c ?_
      unfold d5_size
      rw [hC.1.1.1]; exact q
    · rw [d] at q
      exact bn_f c q
  · subst c
    exact br_f (by decide) (br_f (by decide) (br_f (by decide) (br_f (by decide) (br_f (by decide) (br_f (by decide) (br_f (by decide) (br_t rfl (by rw [hC.1.2.2.2.1.1]; exact q))))))))
set_option maxHeartbeats 4000000 in
theorem c_stone {t : Td} {p : Nat} {s : xSt} {Q : Int32 → xSt → Prop} (hC : PC t s) (hp : p < 12) (hq : Q (nI (t_dm t p)) s) : d6_stone (nI p) s Q := by
  unfold d6_stone d1_dampAt
  refine l6_isPlace hp (br_f (by decide) (l6_isPlace hp (br_f (by decide) ⟨nin hp (by omega), ?_⟩)))
  rw [ncl (by omega), hC.1.2.1.2 p hp]; exact hq
def dpF (t : Td) (j k i : Nat) : Int32 := if i = 0 then nI (dm (s_run (bt t) (j + 1)) k) else nI (s_heads (bt t) (s_run (bt t) (j + 1)) k)
set_option maxHeartbeats 4000000 in
theorem c_damp {t : Td} {j k i : Nat} {s : xSt} {Q : Int32 → xSt → Prop} (hT : VT t) (hC : PC t s) (hj : j < 20) (hk : k < 12) (hi : i < 2) (hq : ∀ s', PC t s' → xk kR s s' → Q (dpF t j k i) s') : d6_damp (nI j) (nI k) (nI i) s Q := by
  have e0 : nI i = 0 ↔ i = 0 := nI_eq (b := 0) (by omega) (by omega)
  refine l6_isHour hj (br_f (by decide) (l6_isPlace hk (br_f (by decide) (br_f (nI_pos (by omega)) (br_t (nI_le (b := 1) (by omega) (by omega)) (l6_chamberAsTold hT hC fun s' p n k5 => ?_))))))
  have q := hq s' p (kA5_R k5)
  have x := n.2 j hj
  unfold dpF at q
  rw [e0]
  refine ⟨fun a => l6_isHour hj (br_f (by decide) (l6_isPlace hk (br_f (by decide) ⟨nin hj (by omega), nin hk (by omega), ?_⟩))), fun a => l6_isHour hj (br_f (by decide) (l6_isPlace hk (br_f (by decide) ⟨nin hj (by omega), nin hk (by omega), ?_⟩)))⟩
  · rw [if_neg a] at q
    rw [ncl (a := j) (by omega), ncl (a := k) (by omega), x.2.1 k hk]; exact q
  · rw [if_pos a] at q
    rw [ncl (a := j) (by omega), ncl (a := k) (by omega), x.1 k hk]; exact q
def hoF (t : Td) (j i : Nat) : Int32 := if i = 0 then nI (ay (bt t) j) else if i = 1 then nI (no (bt t) j) else if ca (bt t) j = true then 1 else 0
set_option maxHeartbeats 4000000 in
theorem c_house {t : Td} {j i : Nat} {s : xSt} {Q : Int32 → xSt → Prop} (hT : VT t) (hC : PC t s) (hj : j < 20) (hi : i < 3) (hq : ∀ s', PC t s' → xk kR s s' → Q (hoF t j i) s') : d6_house (nI j) (nI i) s Q := by
  refine l6_isHour hj (br_f (by decide) (br_f (nI_pos (by omega)) (br_t (nI_le (b := 2) (by omega) (by omega)) (l6_chamberAsTold hT hC fun s' p n k => ?_))))
  have q := hq s' p (kA5_R k)
  have x := n.2 j hj
  unfold hoF at q
  refine w_case hi ⟨fun a => ⟨fun b' => l2_carries (VB_bt hT) n hj ?_, fun b' => ?_⟩, fun a => ?_⟩
  · rw [if_neg a, if_neg b'] at q
    cases z : ca (bt t) j
    · rw [z] at q; exact br_t rfl q
    · rw [z] at q; exact br_f (by decide) q
  · rw [if_neg a, if_pos b'] at q
    refine l6_isHour hj (br_f (by decide) ⟨nin hj (by omega), ?_⟩)
    rw [ncl (by omega), x.2.2.2.2.2.2.2]; exact q
  · rw [if_pos a] at q
    refine l6_isHour hj (br_f (by decide) ⟨nin hj (by omega), ?_⟩)
    rw [ncl (by omega), x.2.2.2.2.2.2.1]; exact q
def crF (t : Td) (i : Nat) : Int32 := if t_m t = 0 then -1 else if i = 0 then nI ((cr (bt t) 240).1 / 12) else if i = 1 then nI ((cr (bt t) 240).1 % 12) else nI (cr (bt t) 240).2
set_option maxHeartbeats 4000000 in
theorem c_crowd {t : Td} {i : Nat} {s : xSt} {Q : Int32 → xSt → Prop} (hT : VT t) (hC : PC t s) (hi : i < 3) (hq : ∀ s', PC t s' → xk kR s s' → Q (crF t i) s') : d6_crowd (nI i) s Q := by
  have hm := t_m_le hT
  have x := hC.1.2.1.1.1
  have hb := VB_bt hT
  have e0 : nI i = 0 ↔ i = 0 := nI_eq (b := 0) (by omega) (by omega)
  have e2 : nI i = 2 ↔ i = 2 := nI_eq (b := 2) (by omega) (by omega)
  have lc := cr_le hb 240
  have hdiv : nI (cr (bt t) 240).1 / (12 : Int32) = nI ((cr (bt t) 240).1 / 12) := pk_div (d := 12) (by omega) (by omega) (by omega)
  have hrem : nI (cr (bt t) 240).1 - nI (cr (bt t) 240).1 / 12 * 12 = nI ((cr (bt t) 240).1 % 12) := pk_rem (d := 12) (by omega) (by omega) (by omega)
  unfold crF at hq
  unfold d6_crowd
  rw [x]
  refine br_f (nI_pos (by omega)) (br_t (nI_le (b := 2) (by omega) (by omega)) ?_)
  by_cases z : t_m t = 0
  · rw [if_pos z] at hq
    rw [z]; exact bn_t rfl (hq s hC xk.rf)
  · rw [if_neg z] at hq
    refine bn_f (nne (b := 0) z (by omega) (by omega)) (l6_chamberAsTold hT hC fun s2 p2 n2 k2 => l6_findCrowd hb n2 fun s' cb k8' => ?_)
    have g := cb.2 (by omega)
    rw [g.1, g.2, e0, e2, hrem, hdiv]
    have q := hq s' (p2.st8 k8') ((kA5_R k2).tr (k8_R k8'))
    refine ⟨fun a => ⟨fun b' => ⟨by decide, ?_⟩, fun b' => ⟨by decide, ?_⟩⟩, fun a => ?_⟩
    · rw [if_neg b', if_pos (by omega)] at q; exact q
    · rw [if_pos b'] at q; exact q
    · rw [if_neg (by omega), if_neg (by omega)] at q; exact q
def orF (t : Td) : Int32 := if t_m t = 0 then -1 else nI (ob (bt t) (t_m t))
set_option maxHeartbeats 4000000 in
theorem c_orator {t : Td} {s : xSt} {Q : Int32 → xSt → Prop} (hT : VT t) (hC : PC t s) (hq : ∀ s', PC t s' → xk kR s s' → Q (orF t) s') : d6_orator s Q := by
  unfold orF at hq
  unfold d6_orator
  refine l6_chamberAsTold hT hC fun s2 p2 n2 k2 => l6_oratorL hT p2 n2 fun s' o k => ?_
  have q := hq s' (p2.st8 k) ((kA5_R k2).tr (k8_R k))
  by_cases z : t_m t = 0
  · rw [if_pos z] at q
    rw [(o.1 z).1]; exact q
  · rw [if_neg z] at q
    rw [(o.2 (by omega)).1]; exact q
def stF (t : Td) : Int32 := ((1 <<< (nI (t_m t) &&& 31)) - 1) &&& ((wt (s_run (bt t) 20)) ^^^ (-1))
set_option maxHeartbeats 4000000 in
theorem c_still {t : Td} {s : xSt} {Q : Int32 → xSt → Prop} (hT : VT t) (hC : PC t s) (hq : ∀ s', PC t s' → xk kR s s' → Q (stF t) s') : d6_still s Q := by
  refine l6_chamberAsTold hT hC fun s' p n k => ?_
  unfold d2_stillMembers
  rw [n.1.1, n.1.2.2.2.2.2.2.2]; exact hq s' p (kA5_R k)
set_option maxHeartbeats 4000000 in
theorem c_never {t : Td} {s : xSt} {Q : Int32 → xSt → Prop} (hT : VT t) (hC : PC t s) (hq : ∀ s', PC t s' → xk kR s s' → Q (bits (nvF t) (tne t)) s') : d6_never s Q := by
  have hn := hT.2.2.1
  unfold d6_never
  refine l1_takeAll hT hC.1 fun s1 c1 k1 => ?_
  refine lp0 (fun n i s2 => d6_never_L15 (fun v14 s13 => Q v14 s13) Q n (bits (nvF t) i) (nI i) s2) (fun i s2 => (∃ b, CL 4 b s2 ∧ ∀ L, sB b L = sB (bt t) L) ∧ xk kX s s2) (tne t) (by omega) ?_ ?_ s1 ⟨⟨bt t, c1, fun _ => rfl⟩, k4_X k1⟩
  · intro n s2 ⟨_, h2⟩
    rw [d6_never_L15, h2.1 3 8 rfl, hC.1.2.2.1.1]
    exact br_t (Int32.le_refl _) (hq s2 (hC.stX h2) (kX_R h2))
  · intro n i s2 hi ⟨⟨b, h1, hb⟩, h2⟩ ih
    have m1 := mk1 i (by omega)
    rw [d6_never_L15, h2.1 3 8 rfl, hC.1.2.2.1.1, m1.1]
    refine br_f (nle hi (by omega)) (l1_takeNot (m := 2 ^ i) hT m1.2 (hC.stX h2).1 h1 hb fun s3 c3 k3 => ?_)
    refine l2_trial (VB_w hT) (len_w hT) c3 fun s4 n4 k4 => ?_
    have x4 := (h2.tr (k4_X k3)).tr (kw6_X k4)
    refine l4_comeOutSo hT (hC.stX x4).1 (VB_w hT) n4 ?_
    unfold jn
    rw [← m1.1]
    exact bits_jn (f := nvF t) (i := i) (P := fun v => ∀ v11 : Int32, v11 = nI i + 1 → d6_never_L15 (fun v14 s13 => Q v14 s13) Q n v v11 s4) (fun v e => by
      rw [nI_1] at e; subst e
      exact ih s4 ⟨⟨b_w t (2 ^ i), c3.keep k4 (fun _ _ => rfl), fun _ => rfl⟩, x4⟩)
def mbF (t : Td) (j i : Nat) : Int32 := if i = 0 then nI (t_so t j) else if i = 1 then nI (t_pl t j) else nI (t_up t j)
set_option maxHeartbeats 4000000 in
theorem c_member {t : Td} {j i : Nat} {s : xSt} {Q : Int32 → xSt → Prop} (hT : VT t) (hC : PC t s) (hj : j < t_m t) (hi : i < 3) (hq : Q (mbF t j i) s) : d6_member (nI j) (nI i) s Q := by
  have hm := t_m_le hT
  exact l1_hasG hT hC.1.2.1.1.1 hj (br_f (by decide) (br_f (nI_pos (by omega)) (br_t (nI_le (b := 2) (by omega) (by omega)) (w_case hi (l6_upM hT hC.1 hj hq)))))
set_option maxHeartbeats 4000000 in
theorem it_s {α : Type} (f : Nat → α → α) (n : Nat) (h : α) : it f (n + 1) h = f n (it f n h) := rfl
set_option maxHeartbeats 4000000 in
theorem it_z {α : Type} (f : Nat → α → α) (h : α) : it f 0 h = h := rfl
def dhN (j : Nat) : Nat := if j = 0 then 0 else if j = 1 then 7 else 19
set_option maxHeartbeats 4000000 in
theorem dh_eq : ∀ j, j < 3 → x_dhI j = nI (dhN j) ∧ dhN j < 20 := by decide
-- the whole, in the order of both
def plD (t : Td) (p : Nat) (h : Int64) : Int64 := st (st (st (st (st (st (st h (nI (t_dm t p))) (dpF t 6 p 0)) (dpF t 6 p 1)) (dpF t 19 p 0)) (dpF t 19 p 1)) (bits (weF t p) 10)) (bst (amF t p) 20).1
def mbD (t : Td) (m : Nat) (h : Int64) : Int64 := it (fun i h => st h (mbF t m i)) 3 h
def atD (t : Td) (m : Nat) (h : Int64) : Int64 := it (fun i h => it (fun w h => st h (mv (bt t) (dhN i) m w)) 4 h) 3 h
def meD (t : Td) (m : Nat) (h : Int64) : Int64 := st (st (st (atD t m (mbD t m h)) (bst (seF t m) 12).1) (bst (seF t m) 12).2) (bits (soF t m) 3)
def hoD (t : Td) (j : Nat) (h : Int64) : Int64 := it (fun i h => st h (hoF t j i)) 3 h
def hrD (t : Td) (h : Int64) : Int64 := st (st (it (fun i h => st h (crF t i)) 3 (st (st (it (hoD t) 20 h) (nI (govN (bt t) 19))) (nI (carN (bt t) 20)))) (orF t)) (stF t)
def pnD (t : Td) (g : Nat → Ev) (h : Int64) : Int64 := st (st (31 * (31 * (st (st (st (st (st (st (st h (bst (dsF t 8) 12).1) (bst (dsF t 8) 12).2) (bst (byF t) 20).1) (bst (byF t) 20).2) (cl t).1) (cl t).2.1) (bits (nvF t) (tne t))) + chV t 5 9 0) + chV t 5 9 1) (nI (carN (b_a t g 6) 20))) (nI (govN (b_a t g 6) 19))
def diD (t : Td) (g : Nat → Ev) : Int64 := pnD t g (hrD t (it (meD t) (t_m t) (it (plD t) 12 (st (st (it (fun i h => st h (cnF t i)) 8 17) (ft0 t)) (ft1 t)))))
set_option maxHeartbeats 4000000 in
theorem c_places {t : Td} {h : Int64} {s : xSt} {Q : Int64 → xSt → Prop} (hT : VT t) (hC : PC t s) (hq : ∀ s', PC t s' → xk kR s s' → Q (it (plD t) 12 h) s') : d6_digestOfPlaces h s Q := by
  unfold d6_digestOfPlaces
  refine lp0 (fun n i s2 => d6_digestOfPlaces_L5 (fun v25 s24 => Q v25 s24) Q n (it (plD t) i h) (nI i) s2) (fun i s2 => PC t s2 ∧ xk kR s s2) 12 (by omega) ?_ ?_ s ⟨hC, xk.rf⟩
  · intro n s2 ⟨h1, h2⟩
    rw [d6_digestOfPlaces_L5]
    exact br_t (Int32.le_refl _) (hq s2 h1 h2)
  · intro n i s2 hi ⟨h1, h2⟩ ih
    rw [d6_digestOfPlaces_L5]
    refine br_f (nle (a := 12) hi (by omega)) (c_stone h1 hi ?_)
    intro v4 e4
    refine c_damp (j := 6) (i := 0) hT h1 (by omega) hi (by omega) fun s5 p5 k5 => ?_
    intro v7 e7
    refine c_damp (j := 6) (i := 1) hT p5 (by omega) hi (by omega) fun s8 p8 k8 => ?_
    intro v10 e10
    refine c_damp (j := 19) (i := 0) hT p8 (by omega) hi (by omega) fun s11 p11 k11 => ?_
    intro v13 e13
    refine c_damp (j := 19) (i := 1) hT p11 (by omega) hi (by omega) fun s14 p14 k14 => ?_
    intro v16 e16
    refine l6_firsts hT p14 hi fun s17 b17 k17 => ?_
    intro v19 e19
    refine l6_hourToAsk hT hi b17 fun s20 k20 => ?_
    intro v22 e22 v23 e23
    rw [nI_1] at e23
    subst e4 e7 e10 e13 e16 e19 e22 e23
    exact ih s20 ⟨p14.stW (k17.tr k20), ((((h2.tr k5).tr k8).tr k11).tr k14).tr (kW_R (k17.tr k20))⟩
set_option maxHeartbeats 4000000 in
theorem c_mbL {t : Td} {m : Nat} {h : Int64} {s : xSt} {K Q : Int64 → xSt → Prop} (hT : VT t) (h1 : PC t s) (hi : m < t_m t) (hq : K (mbD t m h) s) : d6_digestOfMembers_L26 (nI m) K Q x_lim h 0 s := by
  have hm := t_m_le hT
  refine lp0 (fun n2 i (_ : Unit) => d6_digestOfMembers_L26 (nI m) K Q n2 (it (fun i h => st h (mbF t m i)) i h) (nI i) s) (fun _ _ => True) 3 (by omega) ?_ ?_ () trivial
  · intro n2 _ _
    rw [d6_digestOfMembers_L26]
    exact br_t (by decide) hq
  · intro n2 i _ hi2 _ ih2
    rw [d6_digestOfMembers_L26]
    refine br_f (nlt (a := 2) (by omega) (by omega)) (c_member hT h1 hi hi2 ?_)
    intro v6 e6 v7 e7
    rw [nI_1] at e7
    subst e6 e7
    exact ih2 () trivial
set_option maxHeartbeats 4000000 in
theorem c_atL {t : Td} {m : Nat} {h : Int64} {s : xSt} {K Q : Int64 → xSt → Prop} (hT : VT t) (h3 : N2 5 (bt t) 20 s) (hi : m < t_m t) (hq : K (atD t m h) s) : d6_digestOfMembers_L57 (nI m) K Q x_lim h 0 s := by
  have hm := t_m_le hT
  refine lp0 (fun n2 i (_ : Unit) => d6_digestOfMembers_L57 (nI m) K Q n2 (it (fun i h => it (fun w h => st h (mv (bt t) (dhN i) m w)) 4 h) i h) (nI i) s) (fun _ _ => True) 3 (by omega) ?_ ?_ () trivial
  · intro n2 _ _
    rw [d6_digestOfMembers_L57]
    exact br_t (Int32.le_refl _) hq
  · intro n2 i _ hi2 _ ih2
    have de := dh_eq i hi2
    rw [d6_digestOfMembers_L57]
    refine br_f (nle (a := 3) hi2 (by omega)) ?_
    refine lp0 (fun n3 w (_ : Unit) => d6_digestOfMembers_L69 (nI m) (nI i) (fun v20 s19 => ∀ v21 : Int32, v21 = nI i + 1 → d6_digestOfMembers_L57 (nI m) K Q n2 v20 v21 s19) Q n3 (it (fun w h => st h (mv (bt t) (dhN i) m w)) w (it (fun i h => it (fun w h => st h (mv (bt t) (dhN i) m w)) 4 h) i h)) (nI w) s) (fun _ _ => True) 4 (by omega) ?_ ?_ () trivial
    · intro n3 _ _
      rw [d6_digestOfMembers_L69]
      refine br_t (by decide) ?_
      intro v21 e21
      rw [nI_1] at e21
      subst e21
      have g : d6_digestOfMembers_L57 (nI m) K Q n2 (it (fun i h => it (fun w h => st h (mv (bt t) (dhN i) m w)) 4 h) (i + 1) h) (nI (i + 1)) s := ih2 () trivial
      rw [it_s (fun i h => it (fun w h => st h (mv (bt t) (dhN i) m w)) 4 h) i h] at g
      exact g
    · intro n3 w _ hw _ ih3
      rw [d6_digestOfMembers_L69, ncl (by omega), de.1]
      refine br_f (nlt (a := 3) (by omega) (by omega)) ⟨nin hi2 (by omega), l2_ofMember (VB_bt hT) h3 de.2 hi hw ?_⟩
      intro v17 e17 v18 e18
      rw [nI_1] at e18
      subst e17 e18
      have g : d6_digestOfMembers_L69 (nI m) (nI i) (fun v20 s19 => ∀ v21 : Int32, v21 = nI i + 1 → d6_digestOfMembers_L57 (nI m) K Q n2 v20 v21 s19) Q n3 (it (fun w h => st h (mv (bt t) (dhN i) m w)) (w + 1) (it (fun i h => it (fun w h => st h (mv (bt t) (dhN i) m w)) 4 h) i h)) (nI (w + 1)) s := ih3 () trivial
      rw [it_s (fun w h => st h (mv (bt t) (dhN i) m w)) w (it (fun i h => it (fun w h => st h (mv (bt t) (dhN i) m w)) 4 h) i h)] at g
      exact g
set_option maxHeartbeats 4000000 in
theorem c_members {t : Td} {h : Int64} {s : xSt} {Q : Int64 → xSt → Prop} (hT : VT t) (hC : PC t s) (hq : ∀ s', PC t s' → xk kR s s' → Q (it (meD t) (t_m t) h) s') : d6_digestOfMembers h s Q := by
  have hm := t_m_le hT
  unfold d6_digestOfMembers
  refine l6_chamberAsTold hT hC fun s1 p1 n1 k1 => ?_
  refine lp0 (fun n i s2 => d6_digestOfMembers_L11 (fun v32 s31 => Q v32 s31) Q n (it (meD t) i h) (nI i) s2) (fun i s2 => PC t s2 ∧ N2 5 (bt t) 20 s2 ∧ xk kR s s2) (t_m t) (by omega) ?_ ?_ s1 ⟨p1, n1, kA5_R k1⟩
  · intro n s2 ⟨h1, _, h2⟩
    rw [d6_digestOfMembers_L11, h1.1.2.1.1.1]
    exact br_t (Int32.le_refl _) (hq s2 h1 h2)
  · intro n m s2 hi ⟨h1, h3, h2⟩ ih
    rw [d6_digestOfMembers_L11, h1.1.2.1.1.1]
    refine br_f (nle hi (by omega)) ?_
    refine c_mbL hT h1 hi (c_atL hT h3 hi ?_)
    show d6_findSeat (nI m) s2 (fun s24 => ∀ v25 : Int64, v25 = 31 * atD t m (mbD t m (it (meD t) m h)) + (xI s24 8 0).toInt64 → _)
    refine l6_findSeat hT h1 hi fun s24 b24 k24 => ?_
    intro v25 e25 v26 e26
    rw [b24.1] at e25
    rw [b24.2] at e26
    refine l6_sorts hT (h1.stX k24) hi fun s27 k27 => ?_
    intro v29 e29 v30 e30
    rw [nI_1] at e30
    subst e25 e26 e29 e30
    have kk := k24.tr k27
    exact ih s27 ⟨h1.stX kk, h3.keep kk (fun _ _ => rfl), h2.tr (kX_R kk)⟩
set_option maxHeartbeats 4000000 in
theorem c_hours {t : Td} {h : Int64} {s : xSt} {Q : Int64 → xSt → Prop} (hT : VT t) (hC : PC t s) (hq : ∀ s', PC t s' → xk kR s s' → Q (hrD t h) s') : d6_digestOfHours h s Q := by
  unfold d6_digestOfHours
  refine lp0 (fun n i s2 => d6_digestOfHours_L5 _ Q n (it (hoD t) i h) (nI i) s2) (fun i s2 => PC t s2 ∧ xk kR s s2) 20 (by omega) ?_ ?_ s ⟨hC, xk.rf⟩
  rotate_left
  · intro n j s2 hj ⟨h1, h2⟩ ih
    rw [d6_digestOfHours_L5]
    refine br_f (nle (a := 20) hj (by omega)) ?_
    refine lp0 (fun n2 i s3 => d6_digestOfHours_L15 (nI j) _ Q n2 (it (fun i h => st h (hoF t j i)) i (it (hoD t) j h)) (nI i) s3) (fun i s3 => PC t s3 ∧ xk kR s s3) 3 (by omega) ?_ ?_ s2 ⟨h1, h2⟩
    · intro n2 s3 ⟨g1, g2⟩
      rw [d6_digestOfHours_L15]
      refine br_t (by decide) ?_
      intro v9 e9
      rw [nI_1] at e9
      subst e9
      exact ih s3 ⟨g1, g2⟩
    · intro n2 i s3 hi ⟨g1, g2⟩ ih2
      rw [d6_digestOfHours_L15]
      refine br_f (nlt (a := 2) (by omega) (by omega)) (c_house hT g1 hj hi fun s4 p4 k4 => ?_)
      intro v5 e5 v6 e6
      rw [nI_1] at e6
      subst e5 e6
      exact ih2 s4 ⟨p4, g2.tr k4⟩
  intro n s2 ⟨h1, h2⟩
  rw [d6_digestOfHours_L5]
  refine br_t (Int32.le_refl _) ?_
  clear n
  refine l6_chamberAsTold hT h1 fun s3 p3 n3 k3 => l2_governmentsInAll (VB_bt hT) n3 ?_
  intro v14 e14
  refine l6_chamberAsTold hT p3 fun s4 p4 n4 k4 => l2_carriedInAll (VB_bt hT) n4 ?_
  intro v17 e17
  subst e14 e17
  have h4 := (h2.tr (kA5_R k3)).tr (kA5_R k4)
  refine lp0 (fun n2 i s5 => d6_digestOfHours_L76 _ Q n2 (it (fun i h => st h (crF t i)) i (st (st (it (hoD t) 20 h) (nI (govN (bt t) 19))) (nI (carN (bt t) 20)))) (nI i) s5) (fun i s5 => PC t s5 ∧ xk kR s s5) 3 (by omega) ?_ ?_ s4 ⟨p4, h4⟩
  rotate_left
  · intro n2 i s5 hi ⟨g1, g2⟩ ih2
    rw [d6_digestOfHours_L76]
    refine br_f (nlt (a := 2) (by omega) (by omega)) (c_crowd hT g1 hi fun s6 p6 k6 => ?_)
    intro v21 e21 v22 e22
    rw [nI_1] at e22
    subst e21 e22
    exact ih2 s6 ⟨p6, g2.tr k6⟩
  intro n2 s5 ⟨g1, g2⟩
  rw [d6_digestOfHours_L76]
  refine br_t (by decide) (c_orator hT g1 fun s6 p6 k6 => ?_)
  intro v27 e27
  subst e27
  exact c_still hT p6 fun s7 p7 k7 => hq s7 p7 ((g2.tr k6).tr k7)
set_option maxHeartbeats 4000000 in
theorem c_plans {t : Td} {z x y w : Nat → Int32} {g : Nat → Ev} {h : Int64} {s : xSt} {Q : Int64 → xSt → Prop} (hA : AG z x y w g) (hz : z 0 = 7) (hT : VT t) (hC : PC t s) (hq : ∀ s', PC t s' → xk kR s s' → Q (pnD t g h) s') : d6_digestOfPlans h s Q := by
  unfold d6_digestOfPlans
  refine l6_findDust (h := 8) hT hC (by omega) fun s1 b1 k1 => ?_
  intro v2 e2 v3 e3
  rw [b1.1] at e2
  rw [b1.2] at e3
  have p1 := hC.stX k1
  refine l6_findBoy hT p1 fun s4 b4 k4 => ?_
  intro v5 e5 v6 e6
  rw [b4.1] at e5
  rw [b4.2] at e6
  have p4 := p1.stX k4
  refine l6_findCalm hT p4 fun s7 e7 k7 => ?_
  intro v8 e8 v9 e9
  have c1 : xI s7 0 13 = (cl t).1 := by rw [← e7]
  have c2 : xI s7 0 14 = (cl t).2.1 := by rw [← e7]
  rw [c1] at e8
  rw [c2] at e9
  refine c_never hT (p4.stY k7) fun s10 p10 k10 => ?_
  intro v12 e12
  refine c_chance (c := 5) (h := 9) (w := 0) hT p10 (by omega) (by omega) (by omega) fun s13 p13 k13 => ?_
  intro v15 e15
  refine c_chance (c := 5) (h := 9) (w := 1) hT p13 (by omega) (by omega) (by omega) fun s16 p16 k16 => ?_
  intro v18 e18
  rw [← hz]
  refine l6_sitAges (n := 6) hA hT p16 (by omega) fun s19 n19 k19 => l2_carriedInAll (VB_a hT hA.2.2) n19 ?_
  intro v22 e22
  refine l2_governmentsInAll (VB_a hT hA.2.2) n19 ?_
  subst e2 e3 e5 e6 e8 e9 e12 e15 e18 e22
  exact hq s19 (p16.stX k19) (((((((kX_R k1).tr (kX_R k4)).tr (kY_R k7)).tr k10).tr k13).tr k16).tr (kX_R k19))
set_option maxHeartbeats 4000000 in
theorem c_digest {t : Td} {z x y w : Nat → Int32} {g : Nat → Ev} {s : xSt} {Q : Int64 → xSt → Prop} (hA : AG z x y w g) (hz : z 0 = 7) (hT : VT t) (hC : PC t s) (hq : ∀ s', PC t s' → xk kR s s' → Q (diD t g) s') : d6_digest s Q := by
  unfold d6_digest
  intro v1 e1
  subst e1
  refine lp0 (fun n i s2 => d6_digest_L6 _ Q n (it (fun i h => st h (cnF t i)) i 17) (nI i) s2) (fun i s2 => PC t s2 ∧ xk kR s s2) 8 (by omega) ?_ ?_ s ⟨hC, xk.rf⟩
  rotate_left
  · intro n i s2 hi ⟨h1, h2⟩ ih
    rw [d6_digest_L6]
    refine br_f (nlt (a := 7) (by omega) (by omega)) (c_count hT h1 hi fun s3 p3 k3 => ?_)
    intro v5 e5 v6 e6
    rw [nI_1] at e6
    subst e5 e6
    exact ih s3 ⟨p3, h2.tr k3⟩
  intro n s2 ⟨h1, h2⟩
  rw [d6_digest_L6]
  refine br_t (by decide) ?_
  clear n
  refine bn_t rfl (l6_faultOfStone hT h1.1.1 ?_)
  intro v11 e11
  refine bn_f (by decide) (bn_t rfl (l6_faultOfMembers hT h1.1.1 ?_))
  intro v14 e14
  subst e11 e14
  refine c_places hT h1 fun s3 p3 k3 => c_members hT p3 fun s4 p4 k4 => c_hours hT p4 fun s5 p5 k5 => c_plans hA hz hT p5 fun s6 p6 k6 => hq s6 p6 ((((h2.tr k3).tr k4).tr k5).tr k6)
