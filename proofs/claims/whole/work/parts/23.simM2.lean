set_option maxHeartbeats 4000000 in
theorem s_over_cases (b : Bl) (h : Nat) (S : Sm) (k : Nat) : ∀ n, (s_over b h S k n = none ∧ ∀ j, j < n → ¬ omat h S k j) ∨ (∃ j, j < n ∧ s_over b h S k n = some j ∧ omat h S k j ∧ ∀ i, i < j → ¬ omat h S k i) := by
  intro n
  rcases Classical.em (∃ j, j < n ∧ omat h S k j) with g | g
  · obtain ⟨j, ⟨h1, h2⟩, h3⟩ := pk_least (fun j => j < n ∧ omat h S k j) g
    have h4 : ∀ i, i < j → ¬ omat h S k i := fun i hi q => h3 i hi ⟨by omega, q⟩
    exact Or.inr ⟨j, h1, s_over_some h2 h4 n h1, h2, h4⟩
  · have h1 : ∀ j, j < n → ¬ omat h S k j := fun j hj q => g ⟨j, hj, q⟩
    exact Or.inl ⟨s_over_none n h1, h1⟩
set_option maxHeartbeats 4000000 in
theorem VS.pass {b : Bl} {h k : Nat} {S : Sm} (hV : VS b S) : VS b (s_pass b h k S) := by
  unfold s_pass
  rcases s_over_cases b h S k (bm b) with ⟨e, -⟩ | ⟨j, hj, e, -⟩
  · rw [e]; exact hV
  · rw [e]; exact (hV.up (by have := hV.2.2.1 j hj; omega)).sc
set_option maxHeartbeats 4000000 in
theorem pass_up {b : Bl} {h k : Nat} {S : Sm} : up (s_pass b h k S) k = up S k := by
  unfold s_pass
  rcases s_over_cases b h S k (bm b) with ⟨e, -⟩ | ⟨j, hj, e, g, -⟩
  · rw [e]
  · rw [e]
    show fu _ _ _ _ = _
    exact fu_ne (fun q => g.1 q.symm)
set_option maxHeartbeats 4000000 in
theorem pass_un {b : Bl} {h k : Nat} {S : Sm} : un (s_pass b h k S) = un S := by
  unfold s_pass
  rcases s_over_cases b h S k (bm b) with ⟨e, -⟩ | ⟨j, hj, e, g, -⟩
  · rw [e]
  · rw [e]; rfl
set_option maxHeartbeats 4000000 in
theorem pass_ps {b : Bl} {h k : Nat} {S : Sm} : ps (s_pass b h k S) = ps S := by
  unfold s_pass
  rcases s_over_cases b h S k (bm b) with ⟨e, -⟩ | ⟨j, hj, e, g, -⟩
  · rw [e]
  · rw [e]; rfl
set_option maxHeartbeats 4000000 in
theorem less_le {b : Bl} {S : Sm} {p : Nat} (hV : VS b S) (hp : p < 12) : s_less S p ≤ 10 := by
  unfold s_less; split
  · have := hV.1 (p - 1) (by omega); omega
  · omega
set_option maxHeartbeats 4000000 in
theorem more_le {b : Bl} {S : Sm} {p : Nat} (hV : VS b S) : s_more S p ≤ 10 := by
  unfold s_more; split
  · have := hV.1 (p + 1) (by omega); omega
  · omega
set_option maxHeartbeats 4000000 in
theorem step_dir {S : Sm} {p d : Nat} (hp : p < 12) (h : d + 1 < (if s_less S p < s_more S p then s_more S p else s_less S p)) : (s_less S p < s_more S p → p + 1 < 12) ∧ (¬ s_less S p < s_more S p → 0 < p) := by
  refine ⟨fun c => ?_, fun c => ?_⟩
  · rw [if_pos c] at h
    unfold s_more at h
    split at h <;> omega
  · rw [if_neg c] at h
    unfold s_less at h
    split at h <;> omega
set_option maxHeartbeats 4000000 in
theorem step_eq {b : Bl} {h k : Nat} {S : Sm} : (∃ p w, s_step b h k S = s_pass b h k (s_wt (s_ps S k p) w) ∧ (ps S k < 12 → p < 12)) ∨ s_step b h k S = S := by
  rcases Classical.em (dm S (ps S k) + 1 < (if s_less S (ps S k) < s_more S (ps S k) then s_more S (ps S k) else s_less S (ps S k))) with c | c
  · refine Or.inl ⟨_, _, if_pos c, fun hp => ?_⟩
    have g := step_dir hp c
    split
    · exact g.1 (by assumption)
    · omega
  · exact Or.inr (if_neg c)
set_option maxHeartbeats 4000000 in
theorem VS.step {b : Bl} {h k : Nat} {S : Sm} (hV : VS b S) (hk : k < bm b) : VS b (s_step b h k S) := by
  rcases step_eq (b := b) (h := h) (k := k) (S := S) with ⟨p, w, e, g⟩ | e
  · rw [e]; exact VS.pass (hV.ps (g (hV.2.1 k hk))).wt
  · rw [e]; exact hV
set_option maxHeartbeats 4000000 in
theorem step_up {b : Bl} {h k : Nat} {S : Sm} : up (s_step b h k S) k = up S k := by
  rcases step_eq (b := b) (h := h) (k := k) (S := S) with ⟨p, w, e, g⟩ | e
  · rw [e, pass_up]; rfl
  · rw [e]
set_option maxHeartbeats 4000000 in
theorem step_un {b : Bl} {h k : Nat} {S : Sm} : un (s_step b h k S) = un S := by
  rcases step_eq (b := b) (h := h) (k := k) (S := S) with ⟨p, w, e, g⟩ | e
  · rw [e, pass_un]; rfl
  · rw [e]
set_option maxHeartbeats 4000000 in
theorem VS.walk {b : Bl} {h k : Nat} {S : Sm} (hV : VS b S) (hk : k < bm b) : VS b (s_walk b h k S) := by
  unfold s_walk
  split
  · exact it_inv (VS b) _ _ hV (fun _ y _ hy => hy.step hk)
  · exact hV
set_option maxHeartbeats 4000000 in
theorem VS.walks {b : Bl} {h : Nat} {S : Sm} (hV : VS b S) : VS b (s_walks b h S) := it_inv (VS b) _ _ hV (fun i y hi hy => hy.walk hi)
set_option maxHeartbeats 4000000 in
theorem VS.dry {b : Bl} {S : Sm} (hV : VS b S) : VS b (s_dry b S) := it_inv (VS b) _ _ hV (fun i y hi hy => hy.dm (by have := hy.1 i hi; split <;> omega))
set_option maxHeartbeats 4000000 in
theorem VS.ev {b : Bl} {h : Nat} {S : Sm} {x : Ev} (hb : VB b) (hh : h < 20) (hV : VS b S) : VS b (s_ev b h S x) := by
  unfold s_ev
  split
  · split
    · exact hV.lift hb hh
    · split
      · exact hV.pepper
      · split
        · exact hV.wet f_frost
        · exact hV.wet f_rain
  · exact hV
set_option maxHeartbeats 4000000 in
theorem VS.evl {b : Bl} {h : Nat} (hb : VB b) (hh : h < 20) : ∀ (l : List Ev) (S : Sm), VS b S → VS b (l.foldl (s_ev b h) S) := by
  intro l
  induction l with
  | nil => intro S hV; exact hV
  | cons x l ih => intro S hV; exact ih _ (hV.ev hb hh)
set_option maxHeartbeats 4000000 in
theorem VS.hour {b : Bl} {h : Nat} {S : Sm} (hb : VB b) (hh : h < 20) (hV : VS b S) : VS b (s_hour b h S) := ((hV.evl hb hh (be b)).walks).dry
set_option maxHeartbeats 4000000 in
theorem VS.init {b : Bl} (hb : VB b) : VS b (s_init b) := ⟨hb.2.2.1, hb.2.2.2.1, hb.2.2.2.2.1, fun _ _ => Nat.zero_le _⟩
set_option maxHeartbeats 4000000 in
theorem VS.run {b : Bl} (hb : VB b) : ∀ h, h ≤ 20 → VS b (s_run b h) := by
  intro h
  induction h with
  | zero => intro _; exact VS.init hb
  | succ h ih => intro hh; exact (ih (by omega)).hour hb (by omega)
set_option maxHeartbeats 4000000 in
theorem pm_m (i : Nat) : nI i + (-1) = pm i := (Int32.sub_eq_add_neg _ _).symm
def oinv (b : Bl) (h : Nat) (S : Sm) (k i : Nat) (w : Int32) : Prop := (w = -1 ∧ ∀ j, i ≤ j → j < bm b → ¬ omat h S k j) ∨ (∃ j, i ≤ j ∧ j < bm b ∧ omat h S k j ∧ (∀ l, i ≤ l → l < j → ¬ omat h S k l) ∧ w = nI j)
set_option maxHeartbeats 4000000 in
theorem oinv.no {b : Bl} {h : Nat} {S : Sm} {k i : Nat} {w : Int32} (g : oinv b h S k (i + 1) w) (hn : ¬ omat h S k i) : oinv b h S k i w := by
  rcases g with ⟨e, g⟩ | ⟨j, g1, g2, g3, g4, g5⟩
  · refine Or.inl ⟨e, fun j h1 h2 => ?_⟩
    rcases Nat.lt_or_ge i j with q | q
    · exact g j q h2
    · have : j = i := by omega
      subst this; exact hn
  · refine Or.inr ⟨j, by omega, g2, g3, fun l h1 h2 => ?_, g5⟩
    rcases Nat.lt_or_ge i l with q | q
    · exact g4 l q h2
    · have : l = i := by omega
      subst this; exact hn
set_option maxHeartbeats 4000000 in
theorem l7_over {b : Bl} {h k : Nat} {S : Sm} {s : xSt} {Q : xSt → Prop} {K : Int32 → xSt → Prop} (hb : VB b) (hV : VS b S) (hR : R7 b S s) (hk : k < bm b) (hh : h < 20) (hq : ∀ w, oinv b h S k 0 w → K w s) : ∀ i, i ≤ bm b → ∀ n w, i < n → oinv b h S k i w → d7_passesOver_L10 (nI k) (nI h) K Q n w (pm i) s := by
  have hm := hb.1
  intro i
  induction i with
  | zero =>
    intro _ n w hn hw
    obtain ⟨n, rfl⟩ : ∃ z, n = z + 1 := ⟨n - 1, by omega⟩
    rw [d7_passesOver_L10]
    exact br_t (by decide) (hq w hw)
  | succ i ih =>
    intro hi n w hn hw
    obtain ⟨n, rfl⟩ : ∃ z, n = z + 1 := ⟨n - 1, by omega⟩
    rw [d7_passesOver_L10, pm_s, pm_m, ncl (by omega), ncl (by omega), hR.2.2.2.1 i (by omega), hR.2.2.2.1 k hk]
    have p1 := hV.2.1 i (by omega)
    have p2 := hV.2.1 k hk
    refine br_f (nI_pos (by omega)) ?_
    by_cases c : i = k
    · refine br_t (by rw [c]) ?_
      intro v4 e4; subst e4
      exact ih (by omega) n w (by omega) (hw.no (fun q => q.1 c))
    · refine br_f (nne c (by omega) (by omega)) ⟨nin (by omega) (by omega), nin (by omega) (by omega), ?_⟩
      by_cases d : ps S i = ps S k
      · refine bn_t (by rw [d]) ?_
        refine l7_isRolled hb hV hR (by omega) hh (fun g => bn_t rfl ?_) (fun g => bn_f (by decide) ?_)
        · intro v e; subst e
          refine ih (by omega) n _ (by omega) (Or.inr ⟨i, Nat.le_refl _, by omega, ⟨c, d, g⟩, fun l h1 h2 => by omega, rfl⟩)
        · intro v e; subst e
          exact ih (by omega) n w (by omega) (hw.no (fun q => q.2.2 g))
      · refine bn_f (nne d (by omega) (by omega)) ?_
        intro v e; subst e
        exact ih (by omega) n w (by omega) (hw.no (fun q => d q.2.1))
set_option maxHeartbeats 4000000 in
theorem l7_pass {b : Bl} {h k : Nat} {S : Sm} {s : xSt} {Q : xSt → Prop} (hb : VB b) (hV : VS b S) (hR : R7 b S s) (hk : k < bm b) (hh : h < 20) (hq : ∀ s', R7 b (s_pass b h k S) s' → xk kp7 s s' → Q s') : d7_passesOver (nI k) (nI h) s Q := by
  have hm := hb.1
  unfold d7_passesOver
  intro v1 e1
  subst e1
  rw [hR.1]
  refine l7_over hb hV hR hk hh ?_ (bm b) (Nat.le_refl _) x_lim (-1) (by show bm b < 1000; omega) (Or.inl ⟨rfl, fun j h1 h2 => by omega⟩)
  intro w hw
  unfold s_pass at hq
  rcases hw with ⟨e, g⟩ | ⟨j, -, g2, g3, g4, e⟩
  · rw [s_over_none _ (fun j hj => g j (Nat.zero_le _) hj)] at hq
    exact br_t e (hq s hR xk.rf)
  · subst e
    rw [s_over_some g3 (fun i hi => g4 i (Nat.zero_le _) hi) _ g2] at hq
    have u := hV.2.2.1 j g2
    refine br_f (fun q => ?_) ?_
    · have h0 := nI_pos (n := j) (by omega)
      rw [q] at h0
      exact h0 (by decide)
    · rw [ncl (by omega), ncl (by omega)]
      refine ⟨nin (by omega) (by omega), nin (by omega) (by omega), ?_⟩
      intro s1 e1
      subst e1
      refine ⟨nin (by omega) (by omega), nin (by omega) (by omega), ?_⟩
      intro s2 e2
      subst e2
      have r1 := hR.up j (v := 1 - xA s 13 19 j) (w := 1 - up S j) (by rw [hR.2.2.2.2.1 j g2, l_1, pk_sub u])
      refine hq _ (r1.sc k ?_) ((xk.rf.uA rfl).uA rfl)
      rw [r1.2.2.2.2.2.2.1 k hk, nI_1]; rfl
set_option maxHeartbeats 4000000 in
theorem l7_steps {b : Bl} {h k : Nat} {S : Sm} {s : xSt} {Q : xSt → Prop} (hb : VB b) (hV : VS b S) (hR : R7 b S s) (hk : k < bm b) (hh : h < 20) (hq : ∀ s', R7 b (s_step b h k S) s' → xk kp7 s s' → Q s') : d7_steps (nI k) (nI h) s Q := by
  have hm := hb.1
  have hp := hV.2.1 k hk
  have hd := hV.1 _ hp
  have hl := less_le hV hp
  have hmo := more_le (p := ps S k) hV
  unfold d7_steps jn
  rw [ncl (by omega), hR.2.2.2.1 k hk]
  refine ⟨nin (by omega) (by omega), l7_less hR hp ?_⟩
  refine ⟨nin (by omega) (by omega), ?_⟩
  rw [hR.2.2.2.1 k hk]
  refine l7_more hR hp ?_
  dsimp only
  rw [hR.2.2.2.1 k hk, ncl (by omega), hR.2.2.1 _ hp]
  have key : ∀ w, w = (if s_less S (ps S k) < s_more S (ps S k) then s_more S (ps S k) else s_less S (ps S k)) → (vp_in (nI k) 8 ∧ vp_in (nI (ps S k)) 12 ∧ (pm w ≤ nI (dm S (ps S k)) → Q s) ∧ (¬ pm w ≤ nI (dm S (ps S k)) → vp_in (nI k) 8 ∧ ((pm (s_less S (ps S k)) < pm (s_more S (ps S k)) → (vp_in (nI k) 8 ∧ ∀ s18 : xSt, s18 = xuA s 13 18 k (nI (ps S k) + 1) → ∀ s19 : xSt, s19 = xsI s18 13 22 ((xI s18 13 22) ||| (1 <<< (nI k &&& 31))) → d7_passesOver (nI k) (nI h) s19 (fun s20 => Q s20))) ∧ (¬ pm (s_less S (ps S k)) < pm (s_more S (ps S k)) → (vp_in (nI k) 8 ∧ ∀ s18 : xSt, s18 = xuA s 13 18 k (nI (ps S k) + (-1)) → ∀ s19 : xSt, s19 = xsI s18 13 22 ((xI s18 13 22) ||| (1 <<< (nI k &&& 31))) → d7_passesOver (nI k) (nI h) s19 (fun s20 => Q s20)))))) := by
    intro w hw
    have hw10 : w ≤ 10 := by rw [hw]; split <;> assumption
    have e1 : pm w ≤ nI (dm S (ps S k)) ↔ w ≤ dm S (ps S k) + 1 := by rw [← pm_s]; exact pm_le w (by omega) _ (by omega)
    have e2 := pm_lt (s_less S (ps S k)) (by omega) (s_more S (ps S k)) (by omega)
    refine ⟨nin (by omega) (by omega), nin (by omega) (by omega), fun c => ?_, fun c => ⟨nin (by omega) (by omega), ?_⟩⟩
    · have c2 : ¬ dm S (ps S k) + 1 < w := by have := e1.mp c; omega
      rw [hw] at c2
      have e3 : s_step b h k S = S := if_neg c2
      rw [e3] at hq
      exact hq s hR xk.rf
    · have c2 : dm S (ps S k) + 1 < w := by
        rcases Nat.lt_or_ge (dm S (ps S k) + 1) w with q | q
        · exact q
        · exact absurd (e1.mpr q) c
      rw [hw] at c2
      have g := step_dir hp c2
      have e3 : s_step b h k S = s_pass b h k (s_wt (s_ps S k (if s_less S (ps S k) < s_more S (ps S k) then ps S k + 1 else ps S k - 1)) (wt S ||| (1 <<< (nI k &&& 31)))) := if_pos c2
      rw [e3] at hq
      refine ⟨fun d => ?_, fun d => ?_⟩
      · have d1 := e2.mp d
        rw [if_pos d1] at hq
        refine ⟨nin (by omega) (by omega), ?_⟩
        intro s18 e18 s19 e19
        subst e18 e19
        have r1 := ((hR.ps k (v := nI (ps S k) + 1) (w := ps S k + 1) (nI_1 _)).wt (wt S ||| (1 <<< (nI k &&& 31))))
        have e5 : xI (xuA s 13 18 k (nI (ps S k) + 1)) 13 22 = wt S := hR.2.2.2.2.2.2.2
        rw [e5]
        refine l7_pass hb (hV.ps (g.1 d1)).wt r1 hk hh fun s' q1 q2 => hq s' q1 (((xk.rf.uA rfl).sI rfl).tr q2)
      · have d1 : ¬ s_less S (ps S k) < s_more S (ps S k) := fun q => d (e2.mpr q)
        rw [if_neg d1] at hq
        have g2 := g.2 d1
        refine ⟨nin (by omega) (by omega), ?_⟩
        intro s18 e18 s19 e19
        subst e18 e19
        have e4 : nI (ps S k) + (-1) = nI (ps S k - 1) := by
          rw [pm_m]
          obtain ⟨z, hz⟩ : ∃ z, ps S k = z + 1 := ⟨ps S k - 1, by omega⟩
          rw [hz, pm_s]; rfl
        rw [e4]
        have r1 := ((hR.ps k (v := nI (ps S k - 1)) (w := ps S k - 1) rfl).wt (wt S ||| (1 <<< (nI k &&& 31))))
        have e5 : xI (xuA s 13 18 k (nI (ps S k - 1))) 13 22 = wt S := hR.2.2.2.2.2.2.2
        rw [e5]
        refine l7_pass hb (hV.ps (by omega)).wt r1 hk hh fun s' q1 q2 => hq s' q1 (((xk.rf.uA rfl).sI rfl).tr q2)
  refine ⟨fun c => ?_, fun c => ?_⟩
  · exact key _ (if_pos ((pm_lt _ (by omega) _ (by omega)).mp c)).symm
  · exact key _ (if_neg (fun q => c ((pm_lt _ (by omega) _ (by omega)).mpr q))).symm
