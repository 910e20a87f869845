-- wet
def b_da (b : Bl) (p v : Nat) : Bl := (b.1, b.2.1, fu b.2.2.1 p v, b.2.2.2.1, b.2.2.2.2.1, b.2.2.2.2.2)
set_option maxHeartbeats 4000000 in
theorem b_da_da (b : Bl) (k x y : Nat) : b_da (b_da b k x) k y = b_da b k y := by
  unfold b_da
  rw [fu_fu]
set_option maxHeartbeats 4000000 in
theorem fu_id (f : Nat → Nat) (k : Nat) : fu f k (f k) = f := by
  funext j
  rw [fu_ap]
  split
  · rename_i c; rw [c]
  · rfl
set_option maxHeartbeats 4000000 in
theorem b_da_id (b : Bl) (k : Nat) : b_da b k (bd b k) = b := by
  unfold b_da bd
  rw [fu_id]
set_option maxHeartbeats 4000000 in
theorem VB_da {b : Bl} {k v : Nat} (h : VB b) (hv : v ≤ 9) : VB (b_da b k v) := by
  refine ⟨h.1, h.2.1, fun j hj => ?_, h.2.2.2.1, h.2.2.2.2.1, h.2.2.2.2.2⟩
  show fu (bd b) k v j ≤ 9
  rw [fu_ap]
  split
  · exact hv
  · exact h.2.2.1 j hj
set_option maxHeartbeats 4000000 in
theorem l1_setDamp {b : Bl} {k v : Nat} {s : xSt} {Q : xSt → Prop} (h : CL 4 b s) (hk : k < 12) (hq : ∀ s', CL 4 (b_da b k v) s' → xk k4 s s' → Q s') : d1_setDamp 4 (nI k) (nI v) s Q := by
  unfold d1_setDamp
  refine l6_isPlace hk (br_f (by decide) ⟨nin (by omega) (by omega), ?_⟩)
  rw [ncl (by omega)]
  intro s5 e5; subst e5
  obtain ⟨h1, h2, h3, h4, h5, h6⟩ := h
  exact hq _ ⟨h1, by rw [xA_xuA_ne (by decide)]; exact h2, by rw [xA_xuA_eq]; exact arow2 h3 rfl, by rw [xA_xuA_ne (by decide)]; exact h4, by rw [xA_xuA_ne (by decide)]; exact h5, h6.1, by rw [xA_xuA_ne (by decide), xA_xuA_ne (by decide), xA_xuA_ne (by decide)]; exact h6.2⟩ (xk.rf.uA rfl)
def weF (t : Td) (p v : Nat) : Bool := sa (b_da (bt t) p v) t (tns t)
def wd (t : Td) (p h v : Nat) : Nat := dm (s_run (b_da (bt t) p v) (h + 1)) p
/-- the class's scratch and its rows of wet -/
def kW (t o k : Nat) : Bool := !(o == 4) && !(o == 6) && !(o == 8) && !(o == 0 && ((t == 2 && k == 9) || (t == 1 && k == 10)))
set_option maxHeartbeats 4000000 in
theorem kX_W {s s1 : xSt} (h : xk kX s s1) : xk kW s s1 := h.mono (fun a o c q => by
  simp only [kX, kW, Bool.and_eq_true] at q ⊢; exact q.1)
set_option maxHeartbeats 4000000 in
theorem kW_R {s s1 : xSt} (h : xk kW s s1) : xk kR s s1 := h.mono (fun a o c q => by
  simp only [kW, kR, Bool.and_eq_true, Bool.not_eq_true', Bool.and_eq_false_iff, beq_eq_false_iff_ne, beq_iff_eq] at q ⊢; omega)
set_option maxHeartbeats 4000000 in
theorem PC.stW {t : Td} {s s1 : xSt} (h : PC t s) (k : xk kW s s1) : PC t s1 := h.keep k rfl rfl (fun a o c q => by simp only [kW, Bool.and_eq_true, Bool.not_eq_true', Bool.and_eq_false_iff, beq_eq_false_iff_ne]; omega)
set_option maxHeartbeats 4000000 in
theorem l6_firsts {t : Td} {p : Nat} {s : xSt} {Q : Int32 → xSt → Prop} (hT : VT t) (hC : PC t s) (hp : p < 12) (hq : ∀ s', (∀ v, v < 10 → ∀ h, h < 20 → xB s' 0 9 h v = nI (wd t p h v)) → xk kW s s' → Q (bits (weF t p) 10) s') : d6_firstsThatFit (nI p) s Q := by
  have hb := VB_bt hT
  have ln := len_bt hT
  have hn := hT.2.2.1
  unfold d6_firstsThatFit
  refine l1_takeAll hT hC.1 fun s2 c2 k2 => ?_
  refine lp0 (fun n i s3 => d6_firstsThatFit_L15 (nI p) (fun v22 s21 => Q v22 s21) Q n (bits (weF t p) i) (nI i) s3) (fun i s3 => (∃ b, CL 4 b s3 ∧ VB b ∧ (be b = be (bt t)) ∧ ∀ v, b_da b p v = b_da (bt t) p v) ∧ (∀ v, v < i → ∀ h, h < 20 → xB s3 0 9 h v = nI (wd t p h v)) ∧ xk kW s s3) 10 (by omega) ?_ ?_ s2 ⟨⟨bt t, c2, hb, rfl, fun _ => rfl⟩, fun _ q => by omega, kX_W (k4_X k2)⟩
  · intro n s3 ⟨_, h1, h2⟩
    rw [d6_firstsThatFit_L15]
    exact br_t (by decide) (hq s3 h1 h2)
  · intro n i s3 hi ⟨⟨b, h3, h4, h5, h7⟩, h1, h2⟩ ih
    rw [d6_firstsThatFit_L15]
    refine br_f (nlt (a := 9) (by omega) (by omega)) (l1_setDamp (v := i) h3 hp fun s4 c4 k4' => ?_)
    have v4 := VB_da (k := p) (v := i) h4 (by omega)
    refine l2_trial v4 (by show (be b).length ≤ 9; rw [h5]; omega) c4 fun s5 n5 k5 => ?_
    have x5 := (h2.tr (kX_W (k4_X k4'))).tr (kX_W (kw6_X k5))
    have k35 : xk kX s3 s5 := (k4_X k4').tr (kw6_X k5)
    refine l4_comeOutSo hT (hC.stW x5).1 v4 n5 ?_
    rw [h7 i] at n5 ⊢
    unfold jn
    refine bits_jn (f := weF t p) (i := i) (P := fun v10 => d6_firstsThatFit_L70 (nI p) v10 (nI i) (fun s18 => ∀ v19 : Int32, v19 = nI i + 1 → d6_firstsThatFit_L15 (nI p) (fun v22 s21 => Q v22 s21) Q n v10 v19 s18) Q x_lim 0 s5) ?_
    refine lp0 (fun m h s6 => d6_firstsThatFit_L70 (nI p) (bits (weF t p) (i + 1)) (nI i) _ Q m (nI h) s6) (fun h s6 => (∀ h', h' < h → xB s6 0 9 h' i = nI (wd t p h' i)) ∧ (∀ v, v < i → ∀ h', h' < 20 → xB s6 0 9 h' v = nI (wd t p h' v)) ∧ xk (fun t o k => !(o == 0 && t == 2 && k == 9)) s5 s6) 20 (by omega) ?_ ?_ s5 ⟨fun _ q => by omega, fun v hv h' hh => by rw [k35.2.2 0 9 h' rfl]; exact h1 v hv h' hh, xk.rf⟩
    · intro m s6 ⟨g1, g2, g3⟩
      rw [d6_firstsThatFit_L70]
      refine br_t (Int32.le_refl _) ?_
      intro v19 e19
      rw [nI_1] at e19; subst e19
      refine ih s6 ⟨⟨b_da b p i, (c4.keep k5 (fun _ _ => rfl)).keep g3 (fun _ _ => by simp), v4, h5, fun v => by rw [b_da_da, h7 v]⟩, fun v hv h' hh => ?_, x5.tr (g3.mono fun a o c q => ?_)⟩
      · rcases Nat.lt_or_ge v i with c | c
        · exact g2 v c h' hh
        · have : v = i := by omega
          subst this
          exact g1 h' hh
      · simp only [kW, Bool.and_eq_true, Bool.not_eq_true', Bool.and_eq_false_iff, Bool.or_eq_false_iff, beq_eq_false_iff_ne] at q ⊢
        omega
    · intro m h s6 hh ⟨g1, g2, g3⟩ ih2
      rw [d6_firstsThatFit_L70]
      refine br_f (nle (a := 20) hh (by omega)) ⟨nin hh (by omega), l2_dampOf (b := b_da (bt t) p i) hh hp (by rw [g3.2.2 6 10 h rfl]; exact (n5.2 h hh).1 p hp) ⟨nin hi (by omega), ?_⟩⟩
      intro s16 e16 v17 e17
      rw [nI_1] at e17
      rw [ncl (a := h) (by omega), ncl (a := i) (by omega)] at e16
      subst e16 e17
      refine ih2 _ ⟨fun h' hh' => ?_, fun v hv h' hh' => ?_, g3.uB rfl⟩
      · by_cases c : h' = h
        · subst c
          rw [xB_xuB_eq, upd_eq]; rfl
        · rw [xB_xuB_ne (by omega)]; exact g1 h' (by omega)
      · by_cases c : h' = h
        · subst c
          rw [xB_xuB_eq, upd_ne (by omega)]; exact g2 v hv h' hh'
        · rw [xB_xuB_ne (by omega)]; exact g2 v hv h' hh'
set_option maxHeartbeats 4000000 in
theorem l7_wets' {t : Td} {p : Nat} {s : xSt} {Q : Int32 → xSt → Prop} (hT : VT t) (hM : PM t s) (hp : p < 12) (hq : ∀ s', (∀ v, v < 10 → ∀ h, h < 20 → xA s' 13 35 (20 * v + h) = nI (wd t p h v)) → PM t s' → B7 (bt t) s' → xk kS s s' → Q (bits (weF t p) 10) s') : d7_wetBy (nI p) s Q := by
  unfold d7_wetBy
  refine l7_asTold hT hM fun s2 b2 e2 _ p2 k2 => ⟨nin hp (by omega), ?_⟩
  intro v3 e3
  rw [ncl (a := p) (by omega)] at e3 ⊢
  rw [b2.2.2.1 p hp] at e3
  refine lp0 (fun n i s3 => d7_wetBy_L16 (nI p) v3 _ Q n (bits (weF t p) i) (nI i) s3) (fun i s3 => PM t s3 ∧ (∃ b, B7 b s3 ∧ VB b ∧ (be b = be (bt t)) ∧ ∀ v, b_da b p v = b_da (bt t) p v) ∧ E7t t s3 ∧ (∀ v, v < i → ∀ h, h < 20 → xA s3 13 35 (20 * v + h) = nI (wd t p h v)) ∧ xk kS s s3) 10 (by omega) ?_ ?_ s2 ⟨p2, ⟨bt t, b2, VB_bt hT, rfl, fun _ => rfl⟩, e2, fun _ q => by omega, kT7_S k2⟩
  · intro n s3 ⟨h1, ⟨b, h2, _, _, h7⟩, _, h5, h4⟩
    rw [d7_wetBy_L16]
    refine br_t (Int32.le_refl _) ⟨nin hp (by omega), ?_⟩
    intro s24 e24
    have k24 : xk kT7 s3 s24 := by subst e24; exact xk.rf.uA rfl
    have b24 : B7 (b_da b p (bd (bt t) p)) s24 := by
      obtain ⟨g1, g2, g3, g4, g5⟩ := h2
      subst e24
      exact ⟨g1, by rw [xA_xuA_ne (by decide)]; exact g2, by rw [xA_xuA_eq]; exact arow2 g3 e3, by rw [xA_xuA_ne (by decide)]; exact g4, by rw [xA_xuA_ne (by decide)]; exact g5⟩
    rw [h7, b_da_id] at b24
    refine hq s24 (by subst e24; rw [xA_xuA_ne (by decide)]; exact h5) (h1.stT k24) b24 (h4.tr (kT7_S k24))
  · intro n i s3 hi ⟨h1, ⟨b, h2, h5, h6, h7⟩, h3, h8, h4⟩ ih
    rw [d7_wetBy_L16, ncl (a := p) (by omega)]
    refine br_f (nle (a := 10) hi (by omega)) ⟨nin hp (by omega), ?_⟩
    intro s6 e6
    have k6 : xk kT7 s3 s6 := by subst e6; exact xk.rf.uA rfl
    have b6 : B7 (b_da b p i) s6 := by
      obtain ⟨g1, g2, g3, g4, g5⟩ := h2
      subst e6
      exact ⟨g1, by rw [xA_xuA_ne (by decide)]; exact g2, by rw [xA_xuA_eq]; exact arow2 g3 rfl, by rw [xA_xuA_ne (by decide)]; exact g4, by rw [xA_xuA_ne (by decide)]; exact g5⟩
    have t6 : E7t t s6 := by
      subst e6
      exact ⟨h3.1, by rw [xA_xuA_ne (by decide), xA_xuA_ne (by decide), xA_xuA_ne (by decide)]; exact h3.2.1, h3.2.2⟩
    clear e6
    have p6 : PM t s6 := h1.stT k6
    have v6 := VB_da (k := p) (v := i) h5 (by omega)
    refine l7_isSeen hT p6 v6 b6 ((t6.e7 hT).of h6) fun s7 n7 p7 k7 => ?_
    rw [h7 i] at n7 ⊢
    unfold jn
    refine bits_jn (f := weF t p) (i := i) (P := fun v12 => d7_wetBy_L52 (nI p) v3 v12 (nI i) (fun s18 => ∀ v19 : Int32, v19 = nI i + 1 → d7_wetBy_L16 (nI p) v3 _ Q n v12 v19 s18) Q x_lim 0 s7) ?_
    have B7' := b6.keep k7 rfl rfl rfl rfl rfl
    have T7' := t6.keep k7 rfl rfl rfl rfl rfl
    have S7 : xk kS s s7 := (h4.tr (kT7_S k6)).tr (kr7_S k7)
    refine lp0 (fun m h s8 => d7_wetBy_L52 (nI p) v3 (bits (weF t p) (i + 1)) (nI i) _ Q m (nI h) s8) (fun h s8 => (∀ h', h' < h → xA s8 13 35 (20 * i + h') = nI (wd t p h' i)) ∧ (∀ v, v < i → ∀ h', h' < 20 → xA s8 13 35 (20 * v + h') = nI (wd t p h' v)) ∧ xk (fun t o k => !(o == 13 && t == 1 && k == 35)) s7 s8) 20 (by omega) ?_ ?_ s7 ⟨fun _ q => by omega, fun v hv h' hh => by rw [k7.2.1 13 35 rfl, k6.2.1 13 35 rfl]; exact h8 v hv h' hh, xk.rf⟩
    · intro m s8 ⟨g1, g2, g3⟩
      rw [d7_wetBy_L52]
      refine br_t (Int32.le_refl _) ?_
      intro v19 e19
      rw [nI_1] at e19; subst e19
      refine ih s8 ⟨p7.keep g3 (fun a c q => ?_), ⟨b_da b p i, B7'.keep g3 rfl rfl rfl rfl rfl, v6, h6, fun v => by rw [b_da_da, h7 v]⟩, T7'.keep g3 rfl rfl rfl rfl rfl, fun v hv h' hh => ?_, S7.tr (g3.mono fun a o c q => ?_)⟩
      · simp only [kM, Bool.not_eq_true', Bool.and_eq_false_iff, Bool.or_eq_false_iff, beq_eq_false_iff_ne, decide_eq_false_iff_not, Bool.or_eq_true, Bool.and_eq_true, beq_iff_eq, decide_eq_true_eq] at q ⊢
        omega
      · rcases Nat.lt_or_ge v i with c | c
        · exact g2 v c h' hh
        · have : v = i := by omega
          subst this
          exact g1 h' hh
      · simp only [kS, Bool.not_eq_true', Bool.and_eq_false_iff, beq_eq_false_iff_ne] at q ⊢
        exact Or.inl (Or.inl q)
    · intro m h s8 hh ⟨g1, g2, g3⟩ ih2
      rw [d7_wetBy_L52, show (12 : Int32) * nI h + nI p = nI (12 * h + p) by rw [l_12, pk_mul, nI_add], show (20 : Int32) * nI i + nI h = nI (20 * i + h) by rw [l_20, pk_mul, nI_add], ncl (a := 12 * h + p) (by omega), ncl (a := 20 * i + h) (by omega), g3.2.1 13 23 rfl, (n7.2 h hh).2.2.2.1 p hp]
      refine br_f (nle (a := 20) hh (by omega)) ⟨nin (by omega) (by omega), nin (by omega) (by omega), ?_⟩
      intro s16 e16 v17 e17
      rw [nI_1] at e17
      subst e16 e17
      refine ih2 _ ⟨fun h' hh' => ?_, fun v hv h' hh' => ?_, g3.uA rfl⟩
      · rw [xA_xuA_eq, upd_ap]
        by_cases c : h' = h
        · subst c
          rw [if_pos rfl]; rfl
        · rw [if_neg (by omega)]; exact g1 h' (by omega)
      · rw [xA_xuA_eq, upd_ne (by omega)]; exact g2 v hv h' hh'
set_option maxHeartbeats 4000000 in
theorem q_wet {a : Int32} {σ : xSt} (h : RR σ) : d6_wet a σ (fun r s1 => d7_wet a s1 (fun r' s2 => r = r' ∧ RR s2)) := by
  obtain ⟨t, hT, hC, hM⟩ := h
  by_cases c : ∃ j, j < 12 ∧ a = nI j
  rotate_left
  · exact same (D6 := d6_wet a) (D7 := d7_wet a) hT hC hM (a := -2) (fun Q q => l6_placeB c (br_t rfl q)) (fun Q q => l7_placeB c (br_t rfl q))
  obtain ⟨j, hj, e⟩ := c
  subst e
  exact both (D6 := d6_wet (nI j)) (D7 := d7_wet (nI j)) (a := bits (weF t j) 10) hM hT (fun Q hq => l6_isPlace hj (br_f (by decide) (l6_firsts hT hC hj fun s' _ k => hq s' (hC.stW k) (kW_R k)))) fun s1 Q p hq => l7_placeG hj (br_f (by decide) (l7_wets' hT p hj fun s' _ p' _ k' => hq s' p' k'))
