set_option maxHeartbeats 4000000 in
theorem clampm {m : Nat} (h : m ≤ 8) : (if (0 : Int32) < (if (8 : Int32) < nI m then 8 else nI m) then (if (8 : Int32) < nI m then 8 else nI m) else 0) = nI m := by
  have e : ¬ (8 : Int32) < nI m := nlt (a := 8) h (by omega)
  rw [if_neg e]
  by_cases q : 0 < m
  · exact if_pos (nI_lt (a := 0) q (by omega))
  · have : m = 0 := by omega
    subst this; rfl
set_option maxHeartbeats 4000000 in
theorem l2_begin {c o : Nat} {b : Bl} {s : xSt} {Q : xSt → Prop} (hco : ¬ o = c) (hb : VB b) (hC : C1 o b s) (hq : ∀ s', R2 c b (s_init b) s' → xk (kc c) s s' → Q s') : d2_begin c o s Q := by
  have hm := hb.1
  obtain ⟨c1, c2, c3, c4, c5, -⟩ := hC
  unfold d2_begin
  refine lp0 (fun n i s1 => d2_begin_L2 c o _ Q n (nI i) s1) (fun i s1 => (∀ p, p < i → xA s1 c 0 p = nI (bd b p)) ∧ xk (kc c) s s1) 12 (by omega) ?_ ?_ s ⟨fun _ q => by omega, xk.rf⟩
  rotate_left
  · intro n i s1 hi ⟨h1, h2⟩ ih
    rw [d2_begin_L2, ncl (by omega), h2.2.1 o 0 (kcB hco), c3 i hi]
    refine br_f (nle (a := 12) hi (by omega)) ⟨nin hi (by omega), nin hi (by omega), ?_⟩
    intro s4 e4 v e
    subst e4 e
    rw [nI_1]
    refine ih _ ⟨fun p hp => ?_, h2.uA (kcA (by omega))⟩
    rw [xA_xuA_eq, upd_ap]
    split
    · have : p = i := by omega
      subst this; rfl
    · exact h1 p (by omega)
  intro n s1 ⟨h1, h2⟩
  rw [d2_begin_L2]
  refine br_t (Int32.le_refl _) ?_
  clear n
  intro s7 e7 s8 e8
  rw [h2.1 o 4 (kcB hco), c1, clampm hm] at e7
  have k8 : xk (kc c) s s8 := by subst e8 e7; exact (h2.sI kcI).sI kcI
  have i8 : xI s8 c 8 = nI (bm b) := by subst e8 e7; rw [xI_xsI_ne (by omega), xI_xsI_eq]
  have i9 : xI s8 c 9 = 0 := by subst e8; exact xI_xsI_eq _ _ _ _
  have a0 : ∀ p, p < 12 → xA s8 c 0 p = nI (bd b p) := by subst e8 e7; exact h1
  clear e7 e8
  refine lp0 (fun n i s2 => d2_begin_L50 c o (fun s24 => Q s24) Q n (nI i) s2) (fun i s2 => (xI s2 c 8 = nI (bm b) ∧ xI s2 c 9 = 0 ∧ ∀ p, p < 12 → xA s2 c 0 p = nI (bd b p)) ∧ (∀ k, k < i → xA s2 c 2 k = nI (bs b k)) ∧ (∀ k, k < i → xA s2 c 3 k = nI (bp b k)) ∧ (∀ k, k < i → xA s2 c 4 k = nI (bu b k)) ∧ (∀ k, k < i → xA s2 c 5 k = nI 0) ∧ (∀ k, k < i → xA s2 c 7 k = nI 0) ∧ xk (kc c) s s2) (bm b) (by omega) ?_ ?_ s8 ⟨⟨i8, i9, a0⟩, fun _ q => by omega, fun _ q => by omega, fun _ q => by omega, fun _ q => by omega, fun _ q => by omega, k8⟩
  · intro n s2 ⟨⟨g1, g2, g3⟩, g4, g5, g6, g7, g8, g9⟩
    rw [d2_begin_L50, g1]
    exact br_t (Int32.le_refl _) (hq s2 ⟨g1, g4, g3, g5, g6, g7, g8, g2⟩ g9)
  · intro n i s2 hi ⟨⟨g1, g2, g3⟩, g4, g5, g6, g7, g8, g9⟩ ih
    have b2 : vp_in (nI i) 8 := nin (by omega) (by omega)
    rw [d2_begin_L50, g1, ncl (by omega), g9.2.1 o 1 (kcB hco), c2 i hi]
    refine br_f (nle hi (by omega)) ⟨b2, b2, ?_⟩
    intro s12 e12
    refine ⟨b2, b2, ?_⟩
    intro s15 e15
    refine ⟨b2, b2, ?_⟩
    intro s18 e18
    refine ⟨b2, ?_⟩
    intro s20 e20
    refine ⟨b2, ?_⟩
    intro s22 e22 v e
    subst e
    rw [nI_1]
    have k12 : xk (kc c) s s12 := by rw [e12]; exact g9.uA (kcA (by omega))
    rw [k12.2.1 o 2 (kcB hco), c4 i hi] at e15
    have k15 : xk (kc c) s s15 := by rw [e15]; exact k12.uA (kcA (by omega))
    rw [k15.2.1 o 3 (kcB hco), c5 i hi] at e18
    have k18 : xk (kc c) s s18 := by rw [e18]; exact k15.uA (kcA (by omega))
    have k22 : xk (kc c) s s22 := by rw [e22, e20]; exact (k18.uA (kcA (by omega))).uA (kcA (by omega))
    have at' : ∀ {f : Nat → Int32} {g : Nat → Int32} {v : Int32}, (∀ k, k < i → f k = g k) → v = g i → ∀ k, k < i + 1 → upd f i v k = g k := fun hf hv k hk => by
      rw [upd_ap]
      split
      · have : k = i := by omega
        subst this; exact hv
      · exact hf k (by omega)
    subst e22 e20 e18 e15 e12
    refine ih _ ⟨⟨g1, g2, ?_⟩, ?_, ?_, ?_, ?_, ?_, k22⟩
    · rw [xA_xuA_ne (by omega), xA_xuA_ne (by omega), xA_xuA_ne (by omega), xA_xuA_ne (by omega), xA_xuA_ne (by omega)]; exact g3
    · rw [xA_xuA_ne (by omega), xA_xuA_ne (by omega), xA_xuA_ne (by omega), xA_xuA_ne (by omega), xA_xuA_eq]; exact at' g4 rfl
    · rw [xA_xuA_ne (by omega), xA_xuA_ne (by omega), xA_xuA_ne (by omega), xA_xuA_eq, xA_xuA_ne (by omega)]; exact at' g5 rfl
    · rw [xA_xuA_ne (by omega), xA_xuA_ne (by omega), xA_xuA_eq, xA_xuA_ne (by omega), xA_xuA_ne (by omega)]; exact at' g6 rfl
    · rw [xA_xuA_ne (by omega), xA_xuA_eq, xA_xuA_ne (by omega), xA_xuA_ne (by omega), xA_xuA_ne (by omega)]; exact at' (g := fun _ => nI 0) g7 rfl
    · rw [xA_xuA_eq, xA_xuA_ne (by omega), xA_xuA_ne (by omega), xA_xuA_ne (by omega), xA_xuA_ne (by omega)]; exact at' (g := fun _ => nI 0) g8 rfl
/-- a chamber holds the first N hours of a run -/
def N2 (c : Nat) (b : Bl) (N : Nat) (s : xSt) : Prop := R2 c b (s_run b N) s ∧ ∀ h, h < N → T2 c b h (s_run b (h + 1)) s
set_option maxHeartbeats 4000000 in
theorem evs_hour {b : Bl} {h : Nat} {S : Sm} : s_hour b h S = s_dry b (s_walks b h (s_evs b h S)) := rfl
set_option maxHeartbeats 4000000 in
theorem l2_sit {c o N : Nat} {b : Bl} {s : xSt} {Q : xSt → Prop} (hco : ¬ o = c) (hb : VB b) (hC : C1 o b s) (hN : N ≤ 20) (hq : ∀ s', N2 c b N s' → xk (kw c) s s' → Q s') : d2_sit c o (nI N) s Q := by
  unfold d2_sit
  refine l2_begin hco hb hC fun s1 r1 k1 => ?_
  refine lp0 (fun n i s2 => d2_sit_L12 c o (nI N) (fun s11 => Q s11) Q n (nI i) s2) (fun i s2 => (R2 c b (s_run b i) s2 ∧ ∀ h, h < i → T2 c b h (s_run b (h + 1)) s2) ∧ xk (kw c) s s2) N (by omega) ?_ ?_ s1 ⟨⟨r1, fun _ q => by omega⟩, kc_w k1⟩
  · intro n s2 ⟨g1, g2⟩
    rw [d2_sit_L12]
    exact br_t (Int32.le_refl _) (hq s2 g1 g2)
  · intro n i s2 hi ⟨⟨g1, g2⟩, g3⟩ ih
    have hh : i < 20 := by omega
    have v0 := VS.run hb i (by omega)
    rw [d2_sit_L12]
    refine br_f (nle hi (by omega)) (br_f (nle (a := 20) hh (by omega)) ?_)
    refine l2_doEvents hco hb v0 g1 (hC.keep g3 hco) hh fun s3 r3 o3 k3 => ?_
    have v3 : VS b (s_evs b i (s_run b i)) := v0.evl hb hh (be b)
    refine l2_letMembersGo hb v3 r3 o3 hh fun s4 r4 o4 k4 => ?_
    have v4 : VS b (s_walks b i (s_evs b i (s_run b i))) := v3.walks
    refine l2_countHeads hb v4 r4 fun s5 r5 h5 f5 k5 => ?_
    refine l2_dry hb v4 r5 h5 fun s6 r6 h6 f6 k6 => ?_
    have v6 : VS b (s_run b (i + 1)) := v4.dry
    have o6 : RO c b i (s_run b (i + 1)) s6 := o4.keep dry_un (f6.trans f5)
    have h6' : ∀ p, p < 12 → xA s6 c 1 p = nI (s_heads b (s_run b (i + 1)) p) := fun p hp => by rw [h6 p hp]; exact congrArg nI (heads_ps dry_ps'.symm p)
    refine l2_divide hb v6 r6 o6 hh fun s7 r7 d16 d17 d1 d6 m7 k7 => ?_
    refine l2_keepRecord hb r7 (o6.keep rfl d6) (by rw [d1]; exact h6') hh d16 d17 fun s8 r8 t8 m8 k8 => ?_
    intro v e; subst e
    rw [nI_1]
    refine ih s8 ⟨⟨r8, fun h q => ?_⟩, (((((g3.tr (kc_w k3)).tr (kc_w k4)).tr (kc_w k5)).tr (kc_w k6)).tr k7).tr k8⟩
    rcases Nat.lt_or_ge h i with z | z
    · exact (g2 h z).keep ((((((rk2.of k3).tr (rk2.of k4)).tr (rk2.of k5)).tr (rk2.of k6)).tr m7).tr m8) z
    · have : h = i := by omega
      subst this; exact t8
