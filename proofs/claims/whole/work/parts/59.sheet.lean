-- sheet
set_option maxHeartbeats 4000000 in
theorem clamp60 {n : Nat} (h : n ≤ 60) : (if (0 : Int32) < (if (60 : Int32) < nI n then 60 else nI n) then (if (60 : Int32) < nI n then 60 else nI n) else 0) = nI n := by
  rw [if_neg (show ¬ (60 : Int32) < nI n from nlt (a := 60) h (by omega))]
  split
  · rfl
  · rename_i q
    rcases Nat.eq_zero_or_pos n with z | z
    · subst z; rfl
    · exact absurd (nI_lt (a := 0) z (by omega)) q
set_option maxHeartbeats 4000000 in
theorem c_renew {t : Td} {k n : Nat} {f : Int32} {s : xSt} {Q : xSt → Prop} (h : PC t s) (hk : k < 4) (hn : n ≤ 60) (hq : ∀ s', PC (tS t k f n (fun _ => 0)) s' → xk kR s s' → Q s') : d3_renew (9 + k) f (nI n) s Q := by
  have F : ∀ a c, kO k a (9 + k) c = false := fun a c => by simp [kO]
  unfold d3_renew
  intro s1 e1 s2 e2
  rw [clamp60 hn] at e2
  have kk : xk (kO k) s s2 := by
    subst e2 e1
    exact (xk.rf.sI (F _ _)).sI (F _ _)
  have i2 : xI s2 (9 + k) 2 = nI n := by subst e2; exact xI_xsI_eq _ _ _ _
  have i1 : xI s2 (9 + k) 1 = f := by subst e2 e1; rw [xI_xsI_ne (by omega), xI_xsI_eq]
  clear e1 e2
  refine lp0 (fun m i s3 => d3_renew_L21 (9 + k) (fun s7 => Q s7) Q m (nI i) s3) (fun i s3 => (∀ j, j < i → xA s3 (9 + k) 0 j = 0) ∧ xI s3 (9 + k) 1 = f ∧ xI s3 (9 + k) 2 = nI n ∧ xk (kO k) s s3) n (by omega) ?_ ?_ s2 ⟨fun _ q => by omega, i1, i2, kk⟩
  · intro m s3 ⟨g1, g2, g3, g4⟩
    rw [d3_renew_L21, g3]
    have g := c_sheet (it := fun _ => 0) h hk g4 g2 g3 g1
    exact br_t (Int32.le_refl _) (hq s3 g.1 g.2)
  · intro m i s3 hi ⟨g1, g2, g3, g4⟩ ih
    rw [d3_renew_L21, g3, ncl (a := i) (by omega)]
    refine br_f (nle hi (by omega)) ⟨nin (by omega) (by omega), ?_⟩
    intro s5 e5 v6 e6
    rw [nI_1] at e6
    subst e5 e6
    refine ih _ ⟨fun j hj => ?_, g2, g3, g4.uA (F _ _)⟩
    rw [xA_xuA_eq, upd_ap]
    split
    · rfl
    · exact g1 j (by omega)
set_option maxHeartbeats 4000000 in
theorem m_renew {t : Td} {k n : Nat} {f : Int32} {s s1 : xSt} (hT : VT t) (h : PM t s) (hk : k < 4) (hf : ¬ f = -1) (x : xk (fun t o c => !(o == 13 && t == 1 && decide (36 ≤ c) && decide (c ≤ 39))) s s1) (h36 : xA s1 13 36 = upd (xA s 13 36) k 1) (h37 : xA s1 13 37 = upd (xA s 13 37) k f) (h38 : xA s1 13 38 = upd (xA s 13 38) k (nI n)) (h39 : ∀ j, xA s1 13 39 j = if 60 * k ≤ j ∧ j < 60 * k + 60 then 0 else xA s 13 39 j) (hn : n ≤ 60) : PM (tS t k f n (fun _ => 0)) s1 := by
  obtain ⟨g1, g3, g4, g5, g6⟩ := h
  refine ⟨g1.keep x rfl rfl, ⟨by rw [x.1 13 8 rfl]; exact g3.1, by rw [x.2.1 13 9 rfl, x.2.1 13 10 rfl, x.2.1 13 11 rfl]; exact g3.2⟩, ⟨by rw [x.1 13 31 rfl]; exact g4.1, by rw [x.2.1 13 32 rfl, x.2.1 13 33 rfl, x.2.1 13 34 rfl]; exact g4.2⟩, fun q hq => ?_, by rw [x.1 13 41 rfl]; exact g6⟩
  have y := g5 q hq
  have z := hT.2.2.2.2.2.2.2 q hq
  show xA s1 13 36 q = (if (if q = k then f else tsf t q) = -1 then 0 else 1) ∧ (¬ (if q = k then f else tsf t q) = -1 → xA s1 13 37 q = (if q = k then f else tsf t q)) ∧ (¬ (if q = k then f else tsf t q) = -1 → xA s1 13 38 q = nI (if q = k then n else tsz t q)) ∧ (¬ (if q = k then f else tsf t q) = -1 → ∀ i, i < (if q = k then n else tsz t q) → xA s1 13 39 (60 * q + i) = (if q = k then (fun _ => 0) else tit t q) i)
  rw [h36, h37, h38, upd_ap, upd_ap, upd_ap]
  by_cases c : q = k
  · subst c
    rw [if_pos rfl, if_pos rfl, if_pos rfl, if_pos rfl, if_pos rfl, if_pos rfl, if_neg hf]
    refine ⟨rfl, fun _ => rfl, fun _ => rfl, fun _ i hi => ?_⟩
    rw [h39, if_pos (by omega)]
  · rw [if_neg c, if_neg c, if_neg c, if_neg c, if_neg c, if_neg c]
    refine ⟨y.1, y.2.1, y.2.2.1, fun A i hi => ?_⟩
    rw [h39, if_neg (by omega)]; exact y.2.2.2 A i hi
