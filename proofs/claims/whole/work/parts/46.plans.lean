-- plans
def bst (f : Nat → Nat) : Nat → Int32 × Int32
  | 0 => (-1, -1)
  | i + 1 => if nI (f i) ≤ (bst f i).2 then bst f i else (nI i, nI (f i))
set_option maxHeartbeats 4000000 in
theorem bst_s (f : Nat → Nat) (i : Nat) : bst f (i + 1) = if nI (f i) ≤ (bst f i).2 then bst f i else (nI i, nI (f i)) := rfl
def BB (f : Nat → Nat) (i : Nat) (s : xSt) : Prop := xI s 8 0 = (bst f i).1 ∧ xI s 8 1 = (bst f i).2
set_option maxHeartbeats 4000000 in
theorem BB_offer {f : Nat → Nat} {i : Nat} {s : xSt} {Q : xSt → Prop} (h : BB f i s) (hq : ∀ s', BB f (i + 1) s' → xk k8 s s' → Q s') : d0_offer (nI i) (nI (f i)) s Q := by
  refine l0_offer (fun q => hq s ?_ xk.rf) (fun q s' g0 g1 k => hq s' ?_ k)
  · rw [h.2] at q
    unfold BB; rw [bst_s, if_pos q]; exact h
  · rw [h.2] at q
    unfold BB; rw [bst_s, if_neg q]; exact ⟨g0, g1⟩
set_option maxHeartbeats 4000000 in
theorem BB.keep {f : Nat → Nat} {i : Nat} {s s1 : xSt} {kp : Nat → Nat → Nat → Bool} (h : BB f i s) (k : xk kp s s1) (hk0 : kp 0 8 0 = true) (hk1 : kp 0 8 1 = true) : BB f i s1 := ⟨by rw [k.1 8 0 hk0]; exact h.1, by rw [k.1 8 1 hk1]; exact h.2⟩
/-- the class's own scratch may change -/
def kX (_t o _k : Nat) : Bool := !(o == 4) && !(o == 6) && !(o == 8)
set_option maxHeartbeats 4000000 in
theorem k8_X {s s1 : xSt} (h : xk k8 s s1) : xk kX s s1 := h.mono (fun a o c q => by
  simp only [k8, kX, Bool.and_eq_true] at q ⊢; exact q.2)
set_option maxHeartbeats 4000000 in
theorem k4_X {s s1 : xSt} (h : xk k4 s s1) : xk kX s s1 := h.mono (fun a o c q => by
  simp only [k4, kX, Bool.and_eq_true] at q ⊢; exact q.1.1)
set_option maxHeartbeats 4000000 in
theorem kw6_X {s s1 : xSt} (h : xk (kw 6) s s1) : xk kX s s1 := h.mono (fun a o c q => by
  simp only [kw, kX, Bool.and_eq_true] at q ⊢; exact q.1.2)
set_option maxHeartbeats 4000000 in
theorem kX_R {s s1 : xSt} (h : xk kX s s1) : xk kR s s1 := h.mono (fun a o c q => by
  simp only [kX, kR, Bool.and_eq_true, Bool.not_eq_true', beq_eq_false_iff_ne, beq_iff_eq] at q ⊢; omega)
set_option maxHeartbeats 4000000 in
theorem PC.stX {t : Td} {s s1 : xSt} (h : PC t s) (k : xk kX s s1) : PC t s1 := h.keep k rfl rfl (fun a o c q => by simp only [kX, Bool.and_eq_true, Bool.not_eq_true', beq_eq_false_iff_ne]; omega)
set_option maxHeartbeats 4000000 in
theorem l2_trial {b : Bl} {s : xSt} {Q : xSt → Prop} (hb : VB b) (hl : (be b).length ≤ 9) (h : CL 4 b s) (hq : ∀ s', N2 6 b 20 s' → xk (kw 6) s s' → Q s') : d2_sit 6 4 20 s Q := l2_sit (by decide) hb (h.c1 hl) (Nat.le_refl 20) hq
set_option maxHeartbeats 4000000 in
theorem len_bt {t : Td} (hT : VT t) : (be (bt t)).length = tne t := by show ((List.range (tne t)).map (tg t)).length = _; simp
-- one more event
def b_e (b : Bl) (v : Ev) : Bl := (b.1, b.2.1, b.2.2.1, b.2.2.2.1, b.2.2.2.2.1, b.2.2.2.2.2 ++ [v])
set_option maxHeartbeats 4000000 in
theorem VB_e {b : Bl} {v : Ev} (h : VB b) (hv : v.1 < 4 ∧ v.2.1 < 20 ∧ v.2.2 < 12) : VB (b_e b v) := by
  refine ⟨h.1, h.2.1, h.2.2.1, h.2.2.2.1, h.2.2.2.2.1, fun e he => ?_⟩
  have he : e ∈ be b ++ [v] := he
  rcases List.mem_append.mp he with q | q
  · exact h.2.2.2.2.2 e q
  · rw [List.mem_singleton.mp q]; exact hv
set_option maxHeartbeats 4000000 in
theorem l6_sitMore {t : Td} {v : Ev} {s : xSt} {Q : xSt → Prop} {a b c : Int32} (hT : VT t) (h : PC0 t s) (hv : v.1 < 4 ∧ v.2.1 < 20 ∧ v.2.2 < 12) (ha : a = nI v.1) (hb : b = nI v.2.1) (hc : c = nI v.2.2) (hq : ∀ s', N2 6 (b_e (bt t) v) 20 s' → xk kX s s' → (xI s' 8 0 = xI s 8 0 ∧ xI s' 8 1 = xI s 8 1) → Q s') : d6_sitWithOneMore a b c s Q := by
  have hn := hT.2.2.1
  unfold d6_sitWithOneMore
  refine l1_takeAll hT h fun s1 c1 k1 => ?_
  have ln := len_bt hT
  refine l1_addEv (v := v) c1.2.2.2.2.2 (by omega) ha hb hc fun s2 e2 k2 => ?_
  have c2 : CL 4 (b_e (bt t) v) s2 := ⟨by rw [k2.1 4 4 rfl]; exact c1.1, by rw [k2.2.1 4 1 rfl]; exact c1.2.1, by rw [k2.2.1 4 0 rfl]; exact c1.2.2.1, by rw [k2.2.1 4 2 rfl]; exact c1.2.2.2.1, by rw [k2.2.1 4 3 rfl]; exact c1.2.2.2.2.1, e2⟩
  refine l2_trial (VB_e (VB_bt hT) hv) (by show ((be (bt t)) ++ [v]).length ≤ 9; rw [List.length_append]; show _ + 1 ≤ 9; omega) c2 fun s3 n3 k3 => ?_
  refine hq s3 n3 ((k4_X (k1.tr (k4e_4 k2))).tr (kw6_X k3)) ⟨?_, ?_⟩
  · rw [k3.1 8 0 rfl, k2.1 8 0 rfl, k1.1 8 0 rfl]
  · rw [k3.1 8 1 rfl, k2.1 8 1 rfl, k1.1 8 1 rfl]
/-- the rows of now hold what is told, whatever their number -/
def E7x (t : Td) (s : xSt) : Prop := (∀ e, e < tne t → xA s 13 13 e = nI (tg t e).1 ∧ xA s 13 14 e = nI (tg t e).2.1 ∧ xA s 13 15 e = nI (tg t e).2.2) ∧ xI s 13 16 = 0
set_option maxHeartbeats 4000000 in
theorem E7x.keep {t : Td} {s s1 : xSt} (h : E7x t s) (k : xk kr7 s s1) : E7x t s1 := ⟨by rw [k.2.1 13 13 rfl, k.2.1 13 14 rfl, k.2.1 13 15 rfl]; exact h.1, by rw [k.1 13 16 rfl]; exact h.2⟩
set_option maxHeartbeats 4000000 in
theorem l7_moreE {t : Td} {v : Ev} {s : xSt} {Q : xSt → Prop} {a b c : Int32} (hT : VT t) (hM : PM t s) (hB : B7 (bt t) s) (hE : E7x t s) (hv : v.1 < 4 ∧ v.2.1 < 20 ∧ v.2.2 < 12) (ha : a = nI v.1) (hb : b = nI v.2.1) (hc : c = nI v.2.2) (hq : ∀ s', N7 (b_e (bt t) v) s' → PM t s' → B7 (bt t) s' → E7x t s' → xk kS s s' → Q s') : d7_more a b c s Q := by
  have hn := hT.2.2.1
  unfold d7_more
  rw [hM.2.1.1, nI_1]
  intro s1 e1; subst e1
  rw [xI_xsI_ne (by decide), hM.2.1.1, ncl (by omega)]
  refine ⟨nin (by omega) (by omega), ?_⟩
  intro s3 e3; subst e3
  rw [xI_xuA, xI_xsI_ne (by decide), hM.2.1.1, ncl (by omega)]
  refine ⟨nin (by omega) (by omega), ?_⟩
  intro s5 e5; subst e5
  rw [xI_xuA, xI_xuA, xI_xsI_ne (by decide), hM.2.1.1, ncl (by omega)]
  refine ⟨nin (by omega) (by omega), ?_⟩
  intro s7 e7
  have k7 : xk kE7 s s7 := by subst e7; exact (((xk.rf.sI rfl).uA rfl).uA rfl).uA rfl
  have key := row3 (v := v) hE.1 ha hb hc
  have rows : ∀ e, e < tne t + 1 → xA s7 13 13 e = nI (eup (tg t) (tne t) v e).1 ∧ xA s7 13 14 e = nI (eup (tg t) (tne t) v e).2.1 ∧ xA s7 13 15 e = nI (eup (tg t) (tne t) v e).2.2 := by
    intro e he
    subst e7
    rw [xA_xuA_ne (k' := 13) (by decide), xA_xuA_ne (k' := 13) (by decide), xA_xuA_eq, xA_xsI, xA_xuA_ne (k' := 14) (by decide), xA_xuA_eq, xA_xuA_ne (k' := 14) (by decide), xA_xsI, xA_xuA_eq, xA_xuA_ne (k' := 15) (by decide), xA_xuA_ne (k' := 15) (by decide), xA_xsI]
    exact key e he
  have i12 : xI s7 13 12 = nI (tne t + 1) := by subst e7; rw [xI_xuA, xI_xuA, xI_xuA, xI_xsI_eq]
  have i16 : xI s7 13 16 = 0 := by subst e7; rw [xI_xuA, xI_xuA, xI_xuA, xI_xsI_ne (by decide)]; exact hE.2
  clear e7
  have b7 : B7 (bt t) s7 := hB.keep k7 rfl rfl rfl rfl rfl
  have e7 : E7 (b_e (bt t) v) s7 := by
    refine ⟨tne t + 1, eup (tg t) (tne t) v, fun _ => false, by omega, i12, rows, fun e he => ?_, ?_, fun e he => ?_⟩
    · rw [i16]
      exact ⟨fun q => absurd q (no_ev e (by omega)), fun q => by cases q⟩
    · show be (bt t) ++ [v] = List.map (eup (tg t) (tne t) v) (List.filter (fun _ => true) (List.range (tne t + 1)))
      rw [(List.filter_eq_self (p := fun _ => true)).mpr (fun _ _ => rfl), List.range_succ, List.map_append]
      congr 1
      · show (List.range (tne t)).map (tg t) = _
        refine List.map_congr_left fun e he => ?_
        have := List.mem_range.mp he
        show _ = eup (tg t) (tne t) v e
        unfold eup; rw [if_neg (by omega)]
      · show [v] = [eup (tg t) (tne t) v (tne t)]
        unfold eup; rw [if_pos rfl]
    · unfold eup
      by_cases q : e = tne t
      · rw [if_pos q]; exact hv
      · rw [if_neg q]; exact hT.2.2.2.1 e (by omega)
  refine l7_runs (VB_e (VB_bt hT) hv) b7 e7 fun s' n' k' => ?_
  have p7 : PM t s7 := hM.keep k7 (fun a c q => by
    simp only [kM, kE7, Bool.not_eq_true', Bool.and_eq_false_iff, Bool.or_eq_false_iff, beq_eq_false_iff_ne, decide_eq_false_iff_not, Bool.or_eq_true, Bool.and_eq_true, beq_iff_eq, decide_eq_true_eq] at q ⊢
    omega)
  have x7 : E7x t s7 := ⟨fun e he => by
    have g := rows e (by omega)
    unfold eup at g
    rw [if_neg (by omega)] at g
    exact g, i16⟩
  exact hq s' n' (p7.st7 k') (b7.keep k' rfl rfl rfl rfl rfl) (x7.keep k') ((kT7_S (kE7_T k7)).tr (kr7_S k'))
