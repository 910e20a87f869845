-- the draft bill
def gD (L : List Ev) (j : Nat) : Ev := L.getD j (0, 0, 0)
set_option maxHeartbeats 4000000 in
theorem gD_map {n j : Nat} {g : Nat → Ev} (h : j < n) : gD ((List.range n).map g) j = g j := by
  unfold gD
  rw [List.getD_eq_getElem?_getD, List.getElem?_map, List.getElem?_range h]; rfl
set_option maxHeartbeats 4000000 in
theorem gD_lt {L : List Ev} {v : Ev} {j : Nat} (h : j < L.length) : gD (L ++ [v]) j = gD L j := by
  unfold gD
  rw [List.getD_eq_getElem?_getD, List.getD_eq_getElem?_getD, List.getElem?_append_left h]
set_option maxHeartbeats 4000000 in
theorem gD_eq {L : List Ev} {v : Ev} : gD (L ++ [v]) L.length = v := by
  unfold gD
  rw [List.getD_eq_getElem?_getD, List.getElem?_append_right (Nat.le_refl _), Nat.sub_self]; rfl
set_option maxHeartbeats 4000000 in
theorem gD_range (L : List Ev) : (List.range L.length).map (gD L) = L := by
  refine List.ext_getElem (by simp) fun i h1 h2 => ?_
  rw [List.getElem_map, List.getElem_range]
  unfold gD
  rw [List.getD_eq_getElem?_getD, List.getElem?_eq_getElem h2]; rfl
/-- a row of events in a bill -/
def EL (o : Nat) (L : List Ev) (s : xSt) : Prop := xI s o 8 = nI L.length ∧ ∀ e, e < L.length → xA s o 5 e = nI (gD L e).1 ∧ xA s o 6 e = nI (gD L e).2.1 ∧ xA s o 7 e = nI (gD L e).2.2
def CL (o : Nat) (b : Bl) (s : xSt) : Prop := xI s o 4 = nI (bm b) ∧ (∀ k, k < bm b → xA s o 1 k = nI (bs b k)) ∧ (∀ p, p < 12 → xA s o 0 p = nI (bd b p)) ∧ (∀ k, k < bm b → xA s o 2 k = nI (bp b k)) ∧ (∀ k, k < bm b → xA s o 3 k = nI (bu b k)) ∧ EL o (be b) s
set_option maxHeartbeats 4000000 in
theorem CL.c1 {o : Nat} {b : Bl} {s : xSt} (h : CL o b s) (hl : (be b).length ≤ 9) : C1 o b s :=
  ⟨h.1, h.2.1, h.2.2.1, h.2.2.2.1, h.2.2.2.2.1, (be b).length, gD (be b), hl, h.2.2.2.2.2.1, (gD_range _).symm, h.2.2.2.2.2.2⟩
set_option maxHeartbeats 4000000 in
theorem EL.keep {o : Nat} {L : List Ev} {s s1 : xSt} {kp : Nat → Nat → Nat → Bool} (h : EL o L s) (k : xk kp s s1) (hk : kp 0 o 8 = true) (hk5 : kp 1 o 5 = true) (hk6 : kp 1 o 6 = true) (hk7 : kp 1 o 7 = true) : EL o L s1 :=
  ⟨by rw [k.1 o 8 hk]; exact h.1, by rw [k.2.1 o 5 hk5, k.2.1 o 6 hk6, k.2.1 o 7 hk7]; exact h.2⟩
set_option maxHeartbeats 4000000 in
theorem CL.keep {o : Nat} {b : Bl} {s s1 : xSt} {kp : Nat → Nat → Nat → Bool} (h : CL o b s) (k : xk kp s s1) (hk : ∀ a c, kp a o c = true) : CL o b s1 := by
  obtain ⟨h1, h2, h3, h4, h5, h6⟩ := h
  exact ⟨by rw [k.1 o 4 (hk _ _)]; exact h1, by rw [k.2.1 o 1 (hk _ _)]; exact h2, by rw [k.2.1 o 0 (hk _ _)]; exact h3, by rw [k.2.1 o 2 (hk _ _)]; exact h4, by rw [k.2.1 o 3 (hk _ _)]; exact h5, h6.keep k (hk _ _) (hk _ _) (hk _ _) (hk _ _)⟩
set_option maxHeartbeats 4000000 in
theorem CL_told {t : Td} {s : xSt} (h : PC0 t s) : CL 3 (bt t) s := by
  have e : (be (bt t)).length = tne t := by show ((List.range (tne t)).map (tg t)).length = _; simp
  refine ⟨h.2.1.1.1, h.2.1.1.2.1, h.2.1.2, h.2.1.1.2.2.1, h.2.1.1.2.2.2, by rw [e]; exact h.2.2.1.1, fun i hi => ?_⟩
  rw [e] at hi
  have e2 : gD (be (bt t)) i = tg t i := gD_map hi
  rw [e2]
  exact h.2.2.1.2 i hi
def k4e (t o k : Nat) : Bool := !(o == 4 && ((t == 1 && decide (5 ≤ k) && decide (k ≤ 7)) || (t == 0 && k == 8)))
def k4 (_t o _k : Nat) : Bool := !(o == 4)
set_option maxHeartbeats 4000000 in
theorem k4e_4 {s s1 : xSt} (h : xk k4e s s1) : xk k4 s s1 := h.mono (fun t o k q => by
  simp only [k4e, k4, Bool.not_eq_true', Bool.and_eq_false_iff, beq_eq_false_iff_ne] at q ⊢
  exact Or.inl q)
set_option maxHeartbeats 4000000 in
theorem l1_addEv {L : List Ev} {v : Ev} {s : xSt} {Q : xSt → Prop} {a b c : Int32} (h : EL 4 L s) (hl : L.length < 9) (ha : a = nI v.1) (hb : b = nI v.2.1) (hc : c = nI v.2.2) (hq : ∀ s', EL 4 (L ++ [v]) s' → xk k4e s s' → Q s') : d1_addEvent 4 a b c s Q := by
  unfold d1_addEvent
  rw [h.1, ncl (by omega)]
  refine br_f (nI_pos (by omega)) (br_t (nI_lt (b := 9) hl (by omega)) ⟨nin hl (by omega), ?_⟩)
  intro s4 e4; subst e4
  rw [xI_xuA, h.1, ncl (by omega)]
  refine ⟨nin hl (by omega), ?_⟩
  intro s6 e6; subst e6
  rw [xI_xuA, xI_xuA, h.1, ncl (by omega)]
  refine ⟨nin hl (by omega), ?_⟩
  intro s8 e8; subst e8
  intro s9 e9; subst e9
  rw [xI_xuA, xI_xuA, xI_xuA, h.1, nI_1]
  refine hq _ ⟨by rw [xI_xsI_eq, List.length_append]; rfl, fun e he => ?_⟩ ((((xk.rf.uA rfl).uA rfl).uA rfl).sI rfl)
  rw [xA_xsI, xA_xuA_ne (by decide), xA_xuA_ne (by decide), xA_xuA_eq, xA_xuA_ne (k' := 6) (by decide), xA_xuA_eq, xA_xuA_ne (k' := 6) (by decide), xA_xuA_eq, xA_xuA_ne (k' := 7) (by decide), xA_xuA_ne (k' := 7) (by decide), upd_ap, upd_ap, upd_ap]
  rw [List.length_append] at he
  have he : e < L.length + 1 := he
  by_cases q : e = L.length
  · rw [if_pos q, if_pos q, if_pos q, q, gD_eq]; exact ⟨ha, hb, hc⟩
  · rw [if_neg q, if_neg q, if_neg q, gD_lt (by omega)]; exact h.2 e (by omega)
/-- those of the first that are kept -/
def kl (g : Nat → Ev) (keep : Nat → Bool) (i : Nat) : List Ev := ((List.range i).filter keep).map g
set_option maxHeartbeats 4000000 in
theorem kl_s (g : Nat → Ev) (keep : Nat → Bool) (i : Nat) : kl g keep (i + 1) = if keep i = true then kl g keep i ++ [g i] else kl g keep i := by
  unfold kl
  rw [List.range_succ, List.filter_append, List.map_append]
  cases q : keep i
  · simp [q]
  · simp [q]
set_option maxHeartbeats 4000000 in
theorem kl_le (g : Nat → Ev) (keep : Nat → Bool) (i : Nat) : (kl g keep i).length ≤ i := by
  unfold kl
  rw [List.length_map]
  exact Nat.le_trans (List.length_filter_le _ _) (by rw [List.length_range]; exact Nat.le_refl i)
set_option maxHeartbeats 4000000 in
theorem l1_takeEvents {n : Nat} {g : Nat → Ev} {keep : Nat → Bool} {v : Int32} {s : xSt} {Q : xSt → Prop} (hn : n ≤ 9) (h8 : xI s 3 8 = nI n) (hg : ∀ e, e < n → xA s 3 5 e = nI (g e).1 ∧ xA s 3 6 e = nI (g e).2.1 ∧ xA s 3 7 e = nI (g e).2.2) (hv : ∀ e, e < n → ((v >>> (nI e &&& 31)) &&& 1 = 1 ↔ keep e = true)) (hq : ∀ s', EL 4 (kl g keep n) s' → xk k4e s s' → Q s') : d1_takeEvents 4 3 v s Q := by
  unfold d1_takeEvents
  intro s1 e1
  have k1 : xk k4e s s1 := by subst e1; exact xk.rf.sI rfl
  have l1 : EL 4 (kl g keep 0) s1 := by subst e1; exact ⟨xI_xsI_eq _ _ _ _, fun e he => absurd he (Nat.not_lt_zero e)⟩
  clear e1
  refine lp0 (fun m i s2 => d1_takeEvents_L12 4 3 v (fun s11 => Q s11) Q m (nI i) s2) (fun i s2 => EL 4 (kl g keep i) s2 ∧ xk k4e s s2) n (by omega) ?_ ?_ s1 ⟨l1, k1⟩
  · intro m s2 ⟨p1, p2⟩
    rw [d1_takeEvents_L12, p2.1 3 8 rfl, h8]
    exact br_t (Int32.le_refl _) (hq s2 p1 p2)
  · intro m i s2 hi ⟨p1, p2⟩ ih
    have le := kl_le g keep i
    rw [d1_takeEvents_L12, p2.1 3 8 rfl, h8, ncl (a := i) (by omega), p2.2.1 3 5 rfl, p2.2.1 3 6 rfl, p2.2.1 3 7 rfl, (hg i hi).1, (hg i hi).2.1, (hg i hi).2.2, hv i hi]
    refine br_f (nle hi (by omega)) (br_f (nle (a := 9) (by omega) (by omega)) ⟨fun q => ?_, fun q => ⟨nin (by omega) (by omega), nin (by omega) (by omega), nin (by omega) (by omega), ?_⟩⟩)
    · intro v5 e5
      rw [nI_1] at e5
      subst e5
      refine ih s2 ⟨?_, p2⟩
      rw [kl_s, if_neg q]; exact p1
    · refine l1_addEv (v := g i) p1 (by omega) rfl rfl rfl fun s9 p9 k9 => ?_
      intro v5 e5
      rw [nI_1] at e5
      subst e5
      refine ih s9 ⟨?_, p2.tr k9⟩
      rw [kl_s, if_pos q]; exact p9
set_option maxHeartbeats 4000000 in
theorem all_ev : ∀ e, e < 9 → ((-1 : Int32) >>> (nI e &&& 31)) &&& 1 = 1 := by decide
set_option maxHeartbeats 4000000 in
theorem kl_all {g : Nat → Ev} {n : Nat} : kl g (fun _ => true) n = (List.range n).map g := by
  unfold kl
  congr 1
  exact List.filter_eq_self.mpr (fun _ _ => rfl)
set_option maxHeartbeats 4000000 in
theorem l1_takeAll {t : Td} {s : xSt} {Q : xSt → Prop} (hT : VT t) (h : PC0 t s) (hq : ∀ s', CL 4 (bt t) s' → xk k4 s s' → Q s') : d1_takeAll 4 3 s Q := by
  have hm := t_m_le hT
  have hn := hT.2.2.1
  have c := CL_told h
  obtain ⟨c1, c2, c3, c4, c5, c6⟩ := c
  unfold d1_takeAll
  refine lp0 (fun n i s1 => d1_takeAll_L7 4 3 _ Q n (nI i) s1) (fun i s1 => (∀ p, p < i → xA s1 4 0 p = nI (bd (bt t) p)) ∧ xk k4 s s1) 12 (by omega) ?_ ?_ s ⟨fun _ q => by omega, xk.rf⟩
  rotate_left
  · intro n i s1 hi ⟨h1, h2⟩ ih
    rw [d1_takeAll_L7, ncl (by omega), h2.2.1 3 0 rfl, c3 i hi]
    refine br_f (nle (a := 12) hi (by omega)) ⟨nin hi (by omega), nin hi (by omega), ?_⟩
    intro s4 e4 v e
    subst e4 e
    rw [nI_1]
    refine ih _ ⟨?_, h2.uA rfl⟩
    rw [xA_xuA_eq]; exact arow h1 rfl
  intro n s1 ⟨h1, h2⟩
  rw [d1_takeAll_L7]
  refine br_t (Int32.le_refl _) ?_
  clear n
  refine lp0 (fun n i s2 => d1_takeAll_L33 4 3 _ Q n (nI i) s2) (fun i s2 => (∀ p, p < 12 → xA s2 4 0 p = nI (bd (bt t) p)) ∧ (∀ k, k < i → k < bm (bt t) → xA s2 4 1 k = nI (bs (bt t) k) ∧ xA s2 4 2 k = nI (bp (bt t) k) ∧ xA s2 4 3 k = nI (bu (bt t) k)) ∧ xk k4 s s2) 8 (by omega) ?_ ?_ s1 ⟨h1, fun _ q => by omega, h2⟩
  · intro n s2 ⟨g1, g2, g3⟩
    rw [d1_takeAll_L33]
    refine br_t (Int32.le_refl _) ?_
    intro s19 e19
    rw [g3.1 3 4 rfl, c1] at e19
    have k19 : xk k4 s s19 := by subst e19; exact g3.sI rfl
    refine l1_takeEvents (n := tne t) (g := tg t) (keep := fun _ => true) (by omega) (by rw [k19.1 3 8 rfl]; exact h.2.2.1.1) (by rw [k19.2.1 3 5 rfl, k19.2.1 3 6 rfl, k19.2.1 3 7 rfl]; exact h.2.2.1.2) (fun e he => ⟨fun _ => rfl, fun _ => all_ev e (by omega)⟩) fun s' p k => ?_
    rw [kl_all] at p
    refine hq s' ⟨?_, ?_, ?_, ?_, ?_, p⟩ (k19.tr (k4e_4 k))
    · rw [k.1 4 4 rfl]; subst e19; exact xI_xsI_eq _ _ _ _
    · rw [k.2.1 4 1 rfl]; subst e19; exact fun k hk => (g2 k (by rw [bt_m] at hk; omega) hk).1
    · rw [k.2.1 4 0 rfl]; subst e19; exact g1
    · rw [k.2.1 4 2 rfl]; subst e19; exact fun k hk => (g2 k (by rw [bt_m] at hk; omega) hk).2.1
    · rw [k.2.1 4 3 rfl]; subst e19; exact fun k hk => (g2 k (by rw [bt_m] at hk; omega) hk).2.2
  · intro n i s2 hi ⟨g1, g2, g3⟩ ih
    rw [d1_takeAll_L33, ncl (by omega)]
    refine br_f (nle (a := 8) hi (by omega)) ⟨nin hi (by omega), nin hi (by omega), ?_⟩
    intro s10 e10; subst e10
    refine ⟨nin hi (by omega), nin hi (by omega), ?_⟩
    intro s13 e13; subst e13
    refine ⟨nin hi (by omega), nin hi (by omega), ?_⟩
    intro s16 e16 v e
    subst e16 e
    rw [nI_1]
    refine ih _ ⟨by rw [xA_xuA_ne (by decide), xA_xuA_ne (by decide), xA_xuA_ne (by decide)]; exact g1, fun k hk hm2 => ?_, ((g3.uA rfl).uA rfl).uA rfl⟩
    have x1 : xA s2 3 1 = xA s 3 1 := g3.2.1 3 1 rfl
    have x2 : xA s2 3 2 = xA s 3 2 := g3.2.1 3 2 rfl
    have x3 : xA s2 3 3 = xA s 3 3 := g3.2.1 3 3 rfl
    rw [xA_xuA_ne (k' := 1) (by decide), xA_xuA_ne (k' := 1) (by decide), xA_xuA_eq, xA_xuA_ne (k' := 2) (by decide), xA_xuA_eq, xA_xuA_ne (o' := 4) (k' := 2) (by decide), xA_xuA_eq, xA_xuA_ne (o' := 3) (by decide), xA_xuA_ne (o' := 3) (by decide), xA_xuA_ne (o' := 3) (by decide), xA_xuA_ne (o' := 4) (k' := 3) (by decide), xA_xuA_ne (o' := 4) (k' := 3) (by decide), x1, x2, x3, upd_ap, upd_ap, upd_ap]
    by_cases q : k = i
    · subst q
      rw [if_pos rfl, if_pos rfl, if_pos rfl]
      exact ⟨c2 k hm2, c4 k hm2, c5 k hm2⟩
    · rw [if_neg q, if_neg q, if_neg q]
      exact g2 k (by omega) hm2
