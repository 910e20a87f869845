set_option maxHeartbeats 4000000 in
theorem q_sheet {a f m : Int32} {σ : xSt} (h : RR σ) : d6_sheet a f m σ (fun r s1 => d7_sheet a f m s1 (fun r' s2 => r = r' ∧ RR s2)) := by
  obtain ⟨t, hT, hC, hM⟩ := h
  by_cases c : ∃ j, j < 4 ∧ a = nI j
  rotate_left
  · exact same (D6 := d6_sheet a f m) (D7 := d7_sheet a f m) hT hC hM (a := -2) (fun Q q => l6_sheetB c ⟨fun _ => q, fun ob e => by cases e⟩) (fun Q q => l7_sheetB c (br_t rfl q))
  obtain ⟨k, hk, e⟩ := c
  subst e
  by_cases c : ∃ j, j < 3 ∧ f = nI j
  rotate_left
  · refine same (D6 := d6_sheet (nI k) f m) (D7 := d7_sheet (nI k) f m) hT hC hM (a := -2) (fun Q q => l6_sheetG hk ⟨fun e => (by cases e), fun ob e hcl => l6_formB c (br_t rfl q)⟩) (fun Q q => l7_sheetG hk (br_f (by decide) (l7_inB (n := 2) (by omega) rfl c (br_t rfl q))))
  obtain ⟨l, hl, e⟩ := c
  subst e
  have start6 : ∀ Q : Int32 → xSt → Prop, (m ≤ 60 → (0 ≤ m → d3_renew (9 + k) (nI l) m σ (fun s9 => Q m s9)) ∧ (¬ 0 ≤ m → d6_finding 5 σ (fun v11 s10 => Q v11 s10))) ∧ (¬ m ≤ 60 → Q (-2) σ) → d6_sheet (nI k) (nI l) m σ Q := fun Q g => l6_sheetG hk ⟨fun e => (by cases e), fun ob e hcl => by
    cases e
    exact l6_formG hl (br_f (by decide) g)⟩
  by_cases A : m ≤ 60
  rotate_left
  · exact same (D6 := d6_sheet (nI k) (nI l) m) (D7 := d7_sheet (nI k) (nI l) m) hT hC hM (a := -2) (fun Q q => start6 Q (br_f A q)) (fun Q q => l7_sheetG hk (br_f (by decide) (l7_inG (n := 2) (by omega) rfl hl (br_f (by decide) (br_f A q)))))
  by_cases B : 0 ≤ m
  rotate_left
  · refine both (D6 := d6_sheet (nI k) (nI l) m) (D7 := d7_sheet (nI k) (nI l) m) (t' := tF t 5) (a := -10 - 5) hM (VT_tF hT) (fun Q hq => start6 Q (br_t A (br_f B (c_find hC hq)))) fun s1 Q p hq => l7_sheetG hk (br_f (by decide) (l7_inG (n := 2) (by omega) rfl hl (br_f (by decide) (br_t A (br_f B (m_find p hq))))))
  obtain ⟨n, hn, e⟩ := nI_of2 (x := m) (M := 60) (n := 60) (by decide) (Int32.not_lt.mpr B) A
  subst e
  have hf : nI l = -1 ∨ nI l = 0 ∨ nI l = 1 ∨ nI l = 2 := by
    rcases (show l = 0 ∨ l = 1 ∨ l = 2 by omega) with c | c | c
    · subst c; exact Or.inr (Or.inl rfl)
    · subst c; exact Or.inr (Or.inr (Or.inl rfl))
    · subst c; exact Or.inr (Or.inr (Or.inr rfl))
  refine both (D6 := d6_sheet (nI k) (nI l) (nI n)) (D7 := d7_sheet (nI k) (nI l) (nI n)) (t' := tS t k (nI l) n (fun _ => 0)) (a := nI n) hM (VT_tS hT hf hn) (fun Q hq => start6 Q (br_t A (br_t B (c_renew hC hk hn hq)))) fun s1 Q p hq => l7_sheetG hk (br_f (by decide) (l7_inG (n := 2) (by omega) rfl hl (br_f (by decide) (br_t A (br_t B ⟨nin hk (by omega), ?_⟩)))))
  rw [ncl (by omega)]
  intro s10 e10
  refine ⟨nin hk (by omega), ?_⟩
  intro s12 e12
  refine ⟨nin hk (by omega), ?_⟩
  intro s14 e14
  have e10 : s10 = xuA s1 13 36 k 1 := e10
  have k14 : xk (fun t o c => !(o == 13 && t == 1 && decide (36 ≤ c) && decide (c ≤ 39))) s1 s14 := by subst e14 e12 e10; exact ((xk.rf.uA rfl).uA rfl).uA rfl
  have a36 : xA s14 13 36 = upd (xA s1 13 36) k 1 := by subst e14 e12 e10; rw [xA_xuA_ne (by decide), xA_xuA_ne (by decide), xA_xuA_eq]
  have a37 : xA s14 13 37 = upd (xA s1 13 37) k (nI l) := by subst e14 e12 e10; rw [xA_xuA_ne (by decide), xA_xuA_eq, xA_xuA_ne (by decide)]
  have a38 : xA s14 13 38 = upd (xA s1 13 38) k (nI n) := by subst e14 e12 e10; rw [xA_xuA_eq, xA_xuA_ne (by decide), xA_xuA_ne (by decide)]
  have a39 : xA s14 13 39 = xA s1 13 39 := by subst e14 e12 e10; rw [xA_xuA_ne (by decide), xA_xuA_ne (by decide), xA_xuA_ne (by decide)]
  clear e10 e12 e14
  refine lp0 (fun m i s3 => d7_sheet_L59 (nI k) (nI n) (fun s19 => Q (nI n) s19) Q m (nI i) s3) (fun i s3 => (∀ j, xA s3 13 39 j = if 60 * k ≤ j ∧ j < 60 * k + i then 0 else xA s1 13 39 j) ∧ xA s3 13 36 = xA s14 13 36 ∧ xA s3 13 37 = xA s14 13 37 ∧ xA s3 13 38 = xA s14 13 38 ∧ xk (fun t o c => !(o == 13 && t == 1 && decide (36 ≤ c) && decide (c ≤ 39))) s1 s3) 60 (by omega) ?_ ?_ s14 ⟨fun j => by rw [a39, if_neg (by omega)], rfl, rfl, rfl, k14⟩
  · intro m s3 ⟨g1, g2, g3, g4, g5⟩
    rw [d7_sheet_L59]
    refine br_t (Int32.le_refl _) (hq s3 (m_renew hT p hk (nI_nm (by omega)) g5 (g2.trans a36) (g3.trans a37) (g4.trans a38) g1 hn) (g5.mono fun t o c q => ?_))
    simp only [kS, Bool.not_eq_true', Bool.and_eq_false_iff, beq_eq_false_iff_ne] at q ⊢
    exact Or.inl (Or.inl (Or.inl q))
  · intro m i s3 hi ⟨g1, g2, g3, g4, g5⟩ ih
    rw [d7_sheet_L59, show (60 : Int32) * nI k + nI i = nI (60 * k + i) by rw [show (60 : Int32) = nI 60 from rfl, pk_mul, nI_add], ncl (a := 60 * k + i) (by omega)]
    refine br_f (nle (a := 60) hi (by omega)) ⟨nin (by omega) (by omega), ?_⟩
    intro s17 e17 v18 e18
    rw [nI_1] at e18
    subst e17 e18
    refine ih _ ⟨fun j => ?_, by rw [xA_xuA_ne (by decide)]; exact g2, by rw [xA_xuA_ne (by decide)]; exact g3, by rw [xA_xuA_ne (by decide)]; exact g4, g5.uA rfl⟩
    rw [xA_xuA_eq, upd_ap]
    by_cases c : j = 60 * k + i
    · rw [if_pos c, if_pos (by omega)]
    · rw [if_neg c, g1 j]
      by_cases d : 60 * k ≤ j ∧ j < 60 * k + i
      · rw [if_pos d, if_pos (by omega)]
      · rw [if_neg d, if_neg (by omega)]
