-- the law's loop
set_option maxHeartbeats 4000000 in
theorem n_sub6 : ∀ n, n < 385 → (nI n - 6).toInt = (n : Int) - 6 := by decide +kernel
set_option maxHeartbeats 4000000 in
theorem n_stop {n k : Nat} (hn : n ≤ 384) (hk : k ≤ n) (h : ¬ nI n - 6 < nI k) : k + 6 ≤ n := by
  rw [Int32.lt_iff_toInt_lt, n_sub6 n (by omega), nI_toInt (by omega)] at h
  omega
set_option maxRecDepth 10000 in
set_option maxHeartbeats 4000000 in
theorem law_loop {ad : xAd} {E : xE} {Q : Option Value → xSt → Prop} {b N : Nat} {xs : Nat → Int32} (X : FX ad E code 4 RL x_tag 14 562) (hX : XS E b N xs) (hN : N ≤ 384) (hend : ∀ k σ, KK ad E Q 1265 (LW ad b k) [] σ) : ∀ (n k : Nat) (σ : xSt), k ≤ N → N < k + n → RR σ → KK ad E Q 18 (LW ad b k) [] σ := by
  intro n
  induction n with
  | zero => intro k σ h1 h2; exact absurd h2 (by omega)
  | succ n ih =>
    intro k σ h1 h2 hR
    refine r_iload_n X (x_dr DLH 10 rfl) 3 rfl rfl ?_
    refine r_aload_n X (x_dr DLH 11 rfl) 0 rfl rfl ?_
    refine r_xlen X hX (x_dr DLH 12 rfl) ?_
    refine r_bipush (v := 6) X (x_dr DLH 13 rfl) (by decide) ?_
    refine r_isub X (x_dr DLH 14 rfl) ?_
    refine r_icmp_gt X 1265 (x_dr DLH 15 rfl) (by decide) (fun _ => hend k σ) (fun c => ?_)
    have hk : k + 6 ≤ N := n_stop hN h1 c
    refine r_aload_n X (x_dr DLH 16 rfl) 0 rfl rfl ?_
    refine r_iload_n X (x_dr DLH 17 rfl) 3 rfl rfl ?_
    refine r_xld X hX (vp_in_nI (show k < N by omega) (by omega)) (x_dr DLH 18 rfl) ?_
    refine r_bipush (v := 63) X (x_dr DLH 19 rfl) (by decide) ?_
    refine r_iand X (x_dr DLH 20 rfl) ?_
    obtain ⟨j, hj, ej⟩ := pk_andE (xs (nI k).toNatClampNeg) (m := 63) 6 (by decide)
    rw [ej]
    have kk : ∀ s1, RR s1 → KK ad E Q 1259 (LW ad b k) [] s1 := fun s1 hR1 => by
      refine r_iinc (v := nI (k + 6)) X ([(3, .int (nI (k + 6))), (0, .ref b), (1, .ref (ad 0 0 0)), (2, .ref (ad 13 0 0))]) 3 (x_dr DLT 0 rfl) rfl (nI_add k 6) (by decide) rfl ?_
      refine r_goto X 18 (x_dr DLT 1 rfl) (by decide) ?_
      refine r_norm X [1, 2, 3, 0] (LW ad b (k + 6)) rfl ?_
      exact ih (k + 6) s1 hk (by omega) hR1
    rcases Nat.lt_or_ge j 37 with c9 | c9
    · rcases (show j = 0 ∨ j = 1 ∨ j = 2 ∨ j = 3 ∨ j = 4 ∨ j = 5 ∨ j = 6 ∨ j = 7 ∨ j = 8 ∨ j = 9 ∨ j = 10 ∨ j = 11 ∨ j = 12 ∨ j = 13 ∨ j = 14 ∨ j = 15 ∨ j = 16 ∨ j = 17 ∨ j = 18 ∨ j = 19 ∨ j = 20 ∨ j = 21 ∨ j = 22 ∨ j = 23 ∨ j = 24 ∨ j = 25 ∨ j = 26 ∨ j = 27 ∨ j = 28 ∨ j = 29 ∨ j = 30 ∨ j = 31 ∨ j = 32 ∨ j = 33 ∨ j = 34 ∨ j = 35 ∨ j = 36 by omega) with rfl | rfl | rfl | rfl | rfl | rfl | rfl | rfl | rfl | rfl | rfl | rfl | rfl | rfl | rfl | rfl | rfl | rfl | rfl | rfl | rfl | rfl | rfl | rfl | rfl | rfl | rfl | rfl | rfl | rfl | rfl | rfl | rfl | rfl | rfl | rfl | rfl
      · exact r_tabIn (off := 163) X 196 (x_dr DLH 21 rfl) (by decide) (by decide) (by decide) (by decide) (lc_0 X hX hk hN hR kk)
      · exact r_tabIn (off := 196) X 229 (x_dr DLH 21 rfl) (by decide) (by decide) (by decide) (by decide) (lc_1 X hX hk hN hR kk)
      · exact r_tabIn (off := 219) X 252 (x_dr DLH 21 rfl) (by decide) (by decide) (by decide) (by decide) (lc_2 X hX hk hN hR kk)
      · exact r_tabIn (off := 242) X 275 (x_dr DLH 21 rfl) (by decide) (by decide) (by decide) (by decide) (lc_3 X hX hk hN hR kk)
      · exact r_tabIn (off := 265) X 298 (x_dr DLH 21 rfl) (by decide) (by decide) (by decide) (by decide) (lc_4 X hX hk hN hR kk)
      · exact r_tabIn (off := 288) X 321 (x_dr DLH 21 rfl) (by decide) (by decide) (by decide) (by decide) (lc_5 X hX hk hN hR kk)
      · exact r_tabIn (off := 321) X 354 (x_dr DLH 21 rfl) (by decide) (by decide) (by decide) (by decide) (lc_6 X hX hk hN hR kk)
      · exact r_tabIn (off := 364) X 397 (x_dr DLH 21 rfl) (by decide) (by decide) (by decide) (by decide) (lc_7 X hX hk hN hR kk)
      · exact r_tabIn (off := 377) X 410 (x_dr DLH 21 rfl) (by decide) (by decide) (by decide) (by decide) (lc_8 X hX hk hN hR kk)
      · exact r_tabIn (off := 400) X 433 (x_dr DLH 21 rfl) (by decide) (by decide) (by decide) (by decide) (lc_9 X hX hk hN hR kk)
      · exact r_tabIn (off := 443) X 476 (x_dr DLH 21 rfl) (by decide) (by decide) (by decide) (by decide) (lc_10 X hX hk hN hR kk)
      · exact r_tabIn (off := 486) X 519 (x_dr DLH 21 rfl) (by decide) (by decide) (by decide) (by decide) (lc_11 X hX hk hN hR kk)
      · exact r_tabIn (off := 519) X 552 (x_dr DLH 21 rfl) (by decide) (by decide) (by decide) (by decide) (lc_12 X hX hk hN hR kk)
      · exact r_tabIn (off := 532) X 565 (x_dr DLH 21 rfl) (by decide) (by decide) (by decide) (by decide) (lc_13 X hX hk hN hR kk)
      · exact r_tabIn (off := 545) X 578 (x_dr DLH 21 rfl) (by decide) (by decide) (by decide) (by decide) (lc_14 X hX hk hN hR kk)
      · exact r_tabIn (off := 568) X 601 (x_dr DLH 21 rfl) (by decide) (by decide) (by decide) (by decide) (lc_15 X hX hk hN hR kk)
      · exact r_tabIn (off := 581) X 614 (x_dr DLH 21 rfl) (by decide) (by decide) (by decide) (by decide) (lc_16 X hX hk hN hR kk)
      · exact r_tabIn (off := 594) X 627 (x_dr DLH 21 rfl) (by decide) (by decide) (by decide) (by decide) (lc_17 X hX hk hN hR kk)
      · exact r_tabIn (off := 627) X 660 (x_dr DLH 21 rfl) (by decide) (by decide) (by decide) (by decide) (lc_18 X hX hk hN hR kk)
      · exact r_tabIn (off := 660) X 693 (x_dr DLH 21 rfl) (by decide) (by decide) (by decide) (by decide) (lc_19 X hX hk hN hR kk)
      · exact r_tabIn (off := 683) X 716 (x_dr DLH 21 rfl) (by decide) (by decide) (by decide) (by decide) (lc_20 X hX hk hN hR kk)
      · exact r_tabIn (off := 706) X 739 (x_dr DLH 21 rfl) (by decide) (by decide) (by decide) (by decide) (lc_21 X hX hk hN hR kk)
      · exact r_tabIn (off := 749) X 782 (x_dr DLH 21 rfl) (by decide) (by decide) (by decide) (by decide) (lc_22 X hX hk hN hR kk)
      · exact r_tabIn (off := 762) X 795 (x_dr DLH 21 rfl) (by decide) (by decide) (by decide) (by decide) (lc_23 X hX hk hN hR kk)
      · exact r_tabIn (off := 775) X 808 (x_dr DLH 21 rfl) (by decide) (by decide) (by decide) (by decide) (lc_24 X hX hk hN hR kk)
      · exact r_tabIn (off := 798) X 831 (x_dr DLH 21 rfl) (by decide) (by decide) (by decide) (by decide) (lc_25 X hX hk hN hR kk)
      · exact r_tabIn (off := 821) X 854 (x_dr DLH 21 rfl) (by decide) (by decide) (by decide) (by decide) (lc_26 X hX hk hN hR kk)
      · exact r_tabIn (off := 844) X 877 (x_dr DLH 21 rfl) (by decide) (by decide) (by decide) (by decide) (lc_27 X hX hk hN hR kk)
      · exact r_tabIn (off := 888) X 921 (x_dr DLH 21 rfl) (by decide) (by decide) (by decide) (by decide) (lc_28 X hX hk hN hR kk)
      · exact r_tabIn (off := 931) X 964 (x_dr DLH 21 rfl) (by decide) (by decide) (by decide) (by decide) (lc_29 X hX hk hN hR kk)
      · exact r_tabIn (off := 974) X 1007 (x_dr DLH 21 rfl) (by decide) (by decide) (by decide) (by decide) (lc_30 X hX hk hN hR kk)
      · exact r_tabIn (off := 997) X 1030 (x_dr DLH 21 rfl) (by decide) (by decide) (by decide) (by decide) (lc_31 X hX hk hN hR kk)
      · exact r_tabIn (off := 1050) X 1083 (x_dr DLH 21 rfl) (by decide) (by decide) (by decide) (by decide) (lc_32 X hX hk hN hR kk)
      · exact r_tabIn (off := 1093) X 1126 (x_dr DLH 21 rfl) (by decide) (by decide) (by decide) (by decide) (lc_33 X hX hk hN hR kk)
      · exact r_tabIn (off := 1156) X 1189 (x_dr DLH 21 rfl) (by decide) (by decide) (by decide) (by decide) (lc_34 X hX hk hN hR kk)
      · exact r_tabIn (off := 1189) X 1222 (x_dr DLH 21 rfl) (by decide) (by decide) (by decide) (by decide) (lc_35 X hX hk hN hR kk)
      · exact r_tabIn (off := 1212) X 1245 (x_dr DLH 21 rfl) (by decide) (by decide) (by decide) (by decide) (lc_36 X hX hk hN hR kk)
    · refine r_tabOut X 1259 (x_dr DLH 21 rfl) (Or.inr ?_) (by decide) (kk σ hR)
      rw [nI_toInt (by omega)]; omega
