set_option maxHeartbeats 4000000 in
theorem dry_up {b : Bl} {S : Sm} : up (s_dry b S) = up S := it_inv (fun T => up T = up S) 12 S rfl (fun _ y _ hy => hy)
set_option maxHeartbeats 4000000 in
theorem dry_un {b : Bl} {S : Sm} : un (s_dry b S) = un S := it_inv (fun T => un T = un S) 12 S rfl (fun _ y _ hy => hy)
set_option maxHeartbeats 4000000 in
theorem dry_sc {b : Bl} {S : Sm} : sc (s_dry b S) = sc S := it_inv (fun T => sc T = sc S) 12 S rfl (fun _ y _ hy => hy)
set_option maxHeartbeats 4000000 in
theorem dry_ps' {b : Bl} {S : Sm} : ps (s_dry b S) = ps S := dry_ps 12
set_option maxHeartbeats 4000000 in
theorem rk7.of {h : Nat} {s s1 : xSt} (g : xk kp7 s s1) : rk7 h s s1 := ⟨fun j _ => by rw [g.2.1 13 24 rfl], fun j _ => by rw [g.2.1 13 25 rfl], fun j _ => by rw [g.2.1 13 26 rfl], fun j _ => by rw [g.2.1 13 23 rfl], fun j _ => by rw [g.2.1 13 27 rfl], fun j _ => by rw [g.2.1 13 28 rfl], fun j _ => by rw [g.2.1 13 29 rfl]⟩
set_option maxHeartbeats 4000000 in
theorem l7_goesBy {b : Bl} {h : Nat} {S : Sm} {s : xSt} {Q : xSt → Prop} (hb : VB b) (hV : VS b S) (hR : R7 b S s) (hE : E7 b s) (hh : h < 20) (hq : ∀ s', R7 b (s_hour b h S) s' → T7 b h (s_hour b h S) s' → rk7 h s s' → xk kr7 s s' → Q s') : d7_goesBy (nI h) s Q := by
  unfold d7_goesBy
  refine l7_events hb hV hR hE hh fun s1 r1 k1 => ?_
  have v1 : VS b (s_evs b h S) := hV.evl hb hh (be b)
  refine l7_allWalk hb v1 r1 hh fun s2 r2 k2 => ?_
  have v2 : VS b (s_walks b h (s_evs b h S)) := v1.walks
  refine l7_recA hb r2 hh fun s3 r3 a1 a2 a3 k3 m3 => ?_
  refine l7_recB hb v2 r3 hh a1 fun s4 r4 b1 b2 m4 => ?_
  have v4 : VS b (s_dry b (s_walks b h (s_evs b h S))) := v2.dry
  refine l7_divides hb v4 r4 hh fun s5 r5 c1 c2 c3 o5 m5 => ?_
  refine hq s5 r5 ⟨?_, ?_, ?_, ?_, c1, c2, c3⟩ ⟨?_, ?_, ?_, ?_, ?_, ?_, ?_⟩ ((((kp7_r k1).tr (kp7_r k2)).tr (ka7_r m3)).tr ((kb7_r m4).tr (kd7_r m5)))
  · intro k hk
    rw [m5.2.1 13 24 rfl, m4.2.1 13 24 rfl]
    show _ = nI (ps (s_dry b _) k)
    rw [dry_ps']; exact a1 k hk
  · intro k hk
    rw [m5.2.1 13 25 rfl, m4.2.1 13 25 rfl]
    show _ = nI (up (s_dry b _) k)
    rw [dry_up]; exact a2 k hk
  · intro k hk
    rw [m5.2.1 13 26 rfl, m4.2.1 13 26 rfl]
    show _ = nI (sc (s_dry b _) k)
    rw [dry_sc]; exact a3 k hk
  · intro p hp
    rw [m5.2.1 13 23 rfl]; exact b1 p hp
  · intro j hj
    rw [m5.2.1 13 24 rfl, m4.2.1 13 24 rfl, k3.1 j hj, k2.2.1 13 24 rfl, k1.2.1 13 24 rfl]
  · intro j hj
    rw [m5.2.1 13 25 rfl, m4.2.1 13 25 rfl, k3.2.1 j hj, k2.2.1 13 25 rfl, k1.2.1 13 25 rfl]
  · intro j hj
    rw [m5.2.1 13 26 rfl, m4.2.1 13 26 rfl, k3.2.2.1 j hj, k2.2.1 13 26 rfl, k1.2.1 13 26 rfl]
  · intro j hj
    rw [m5.2.1 13 23 rfl, b2 j hj, k3.2.2.2.1 j hj, k2.2.1 13 23 rfl, k1.2.1 13 23 rfl]
  · intro j hj
    rw [o5 27 j (by omega), m4.2.1 13 27 rfl, k3.2.2.2.2.1 j hj, k2.2.1 13 27 rfl, k1.2.1 13 27 rfl]
  · intro j hj
    rw [o5 28 j (by omega), m4.2.1 13 28 rfl, k3.2.2.2.2.2.1 j hj, k2.2.1 13 28 rfl, k1.2.1 13 28 rfl]
  · intro j hj
    rw [o5 29 j (by omega), m4.2.1 13 29 rfl, k3.2.2.2.2.2.2 j hj, k2.2.1 13 29 rfl, k1.2.1 13 29 rfl]
set_option maxHeartbeats 4000000 in
theorem T7.keep {b : Bl} {h h' : Nat} {S : Sm} {s s1 : xSt} (hb : VB b) (hT : T7 b h' S s) (hk : rk7 h s s1) (hh : h' < h) : T7 b h' S s1 := by
  have hm := hb.1
  obtain ⟨t1, t2, t3, t4, t5, t6, t7⟩ := hT
  obtain ⟨q1, q2, q3, q4, q5, q6, q7⟩ := hk
  exact ⟨fun k g => by rw [q1 _ (by omega)]; exact t1 k g, fun k g => by rw [q2 _ (by omega)]; exact t2 k g, fun k g => by rw [q3 _ (by omega)]; exact t3 k g, fun p g => by rw [q4 _ (by omega)]; exact t4 p g, by rw [q5 _ hh]; exact t5, by rw [q6 _ hh]; exact t6, by rw [q7 _ hh]; exact t7⟩
/-- what the reference goes from: the stone, the members as they are read -/
def B7 (b : Bl) (s : xSt) : Prop := xI s 13 4 = nI (bm b) ∧ (∀ k, k < bm b → xA s 13 5 k = nI (bs b k)) ∧ (∀ p, p < 12 → xA s 13 3 p = nI (bd b p)) ∧ (∀ k, k < bm b → xA s 13 6 k = nI (bp b k)) ∧ (∀ k, k < bm b → xA s 13 7 k = nI (bu b k))
/-- the reference's records hold a whole run -/
def N7 (b : Bl) (s : xSt) : Prop := R7 b (s_run b 20) s ∧ ∀ h, h < 20 → T7 b h (s_run b (h + 1)) s
set_option maxHeartbeats 4000000 in
theorem l7_runs {b : Bl} {s : xSt} {Q : xSt → Prop} (hb : VB b) (hB : B7 b s) (hE : E7 b s) (hq : ∀ s', N7 b s' → xk kr7 s s' → Q s') : d7_runs s Q := by
  have hm := hb.1
  obtain ⟨B1, B2, B3, B4, B5⟩ := hB
  unfold d7_runs
  refine lp0 (fun n i s1 => d7_runs_L2 _ Q n (nI i) s1) (fun i s1 => (∀ p, p < i → xA s1 13 17 p = nI (bd b p)) ∧ xk kp7 s s1) 12 (by omega) ?_ ?_ s ⟨fun _ q => by omega, xk.rf⟩
  rotate_left
  · intro n i s1 hi ⟨h1, h2⟩ ih
    rw [d7_runs_L2, ncl (by omega), h2.2.1 13 3 rfl, B3 i hi]
    refine br_f (nle (a := 12) hi (by omega)) ⟨nin (by omega) (by omega), nin (by omega) (by omega), ?_⟩
    intro s4 e4 v e
    subst e4 e
    rw [nI_1]
    refine ih _ ⟨fun p hp => ?_, h2.uA rfl⟩
    rw [xA_xuA_eq, upd_ap]
    split
    · have : p = i := by omega
      subst this; rfl
    · exact h1 p (by omega)
  intro n s1 ⟨g1, g2⟩
  rw [d7_runs_L2]
  refine br_t (Int32.le_refl _) ?_
  clear n
  refine lp0 (fun n i s2 => d7_runs_L28 _ Q n (nI i) s2) (fun i s2 => (∀ p, p < 12 → xA s2 13 17 p = nI (bd b p)) ∧ (∀ k, k < i → xA s2 13 18 k = nI (bp b k)) ∧ (∀ k, k < i → xA s2 13 19 k = nI (bu b k)) ∧ (∀ k, k < i → xA s2 13 20 k = nI 0) ∧ (∀ k, k < i → xA s2 13 21 k = nI 0) ∧ xk kp7 s s2) (bm b) (by omega) ?_ ?_ s1 ⟨g1, fun _ q => by omega, fun _ q => by omega, fun _ q => by omega, fun _ q => by omega, g2⟩
  rotate_left
  · intro n i s2 hi ⟨h1, h2, h3, h4, h5, h6⟩ ih
    rw [d7_runs_L28, h6.1 13 4 rfl, B1, ncl (by omega), h6.2.1 13 6 rfl, B4 i hi]
    have b1 : vp_in (nI i) 9 := nin (by omega) (by omega)
    have b2 : vp_in (nI i) 8 := nin (by omega) (by omega)
    refine br_f (nle hi (by omega)) ⟨b1, b2, ?_⟩
    intro s10 e10
    refine ⟨b1, b2, ?_⟩
    intro s13 e13
    refine ⟨b2, ?_⟩
    intro s15 e15
    refine ⟨b2, ?_⟩
    intro s17 e17 v e
    subst e
    rw [nI_1]
    have e5 : xA s10 13 7 i = nI (bu b i) := by rw [e10, xA_xuA_ne (by decide), h6.2.1 13 7 rfl]; exact B5 i hi
    rw [e5] at e13
    subst e17 e15 e13 e10
    refine ih _ ⟨?_, ?_, ?_, ?_, ?_, (((h6.uA rfl).uA rfl).uA rfl).uA rfl⟩
    · rw [xA_xuA_ne (by decide), xA_xuA_ne (by decide), xA_xuA_ne (by decide), xA_xuA_ne (by decide)]; exact h1
    · intro k hk
      rw [xA_xuA_ne (by decide), xA_xuA_ne (by decide), xA_xuA_ne (by decide), xA_xuA_eq, upd_ap]
      split
      · have : k = i := by omega
        subst this; rfl
      · exact h2 k (by omega)
    · intro k hk
      rw [xA_xuA_ne (by decide), xA_xuA_ne (by decide), xA_xuA_eq, xA_xuA_ne (by decide), upd_ap]
      split
      · have : k = i := by omega
        subst this; rfl
      · exact h3 k (by omega)
    · intro k hk
      rw [xA_xuA_ne (by decide), xA_xuA_eq, xA_xuA_ne (by decide), xA_xuA_ne (by decide), upd_ap]
      split
      · rfl
      · exact h4 k (by omega)
    · intro k hk
      rw [xA_xuA_eq, xA_xuA_ne (by decide), xA_xuA_ne (by decide), xA_xuA_ne (by decide), upd_ap]
      split
      · rfl
      · exact h5 k (by omega)
  intro n s2 ⟨h1, h2, h3, h4, h5, h6⟩
  rw [d7_runs_L28, h6.1 13 4 rfl, B1]
  refine br_t (Int32.le_refl _) ?_
  clear n
  intro s3 e3
  have r3 : R7 b (s_init b) s3 := by
    subst e3
    exact ⟨by rw [xI_xsI_ne (by decide), h6.1 13 4 rfl]; exact B1, by rw [xA_xsI, h6.2.1 13 5 rfl]; exact B2, h1, h2, h3, h4, h5, rfl⟩
  have k3 : xk kp7 s s3 := by subst e3; exact h6.sI rfl
  refine lp0 (fun n i s4 => d7_runs_L87 (fun s24 => Q s24) Q n (nI i) s4) (fun i s4 => R7 b (s_run b i) s4 ∧ (∀ h, h < i → T7 b h (s_run b (h + 1)) s4) ∧ xk kr7 s s4) 20 (by omega) ?_ ?_ s3 ⟨r3, fun _ q => by omega, kp7_r k3⟩
  · intro n s4 ⟨q1, q2, q3⟩
    rw [d7_runs_L87]
    exact br_t (Int32.le_refl _) (hq s4 ⟨q1, q2⟩ q3)
  · intro n i s4 hi ⟨q1, q2, q3⟩ ih
    rw [d7_runs_L87]
    refine br_f (nle (a := 20) hi (by omega)) ?_
    refine l7_goesBy hb (VS.run hb i (by omega)) q1 (hE.keep q3) hi fun s5 r5 t5 m5 k5 => ?_
    intro v e
    subst e
    rw [nI_1]
    refine ih s5 ⟨r5, fun h hh => ?_, q3.tr k5⟩
    rcases Nat.lt_or_ge h i with g | g
    · exact (q2 h g).keep hb m5 g
    · have : h = i := by omega
      subst this; exact t5
