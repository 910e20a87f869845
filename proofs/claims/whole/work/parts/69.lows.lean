-- lowest terms
set_option maxHeartbeats 4000000 in
theorem pf_shr {a d : Nat} {D : Int64} (hD : (D.toBitVec.smod 64).toNat = d) (h : a < 2 ^ 62) : lN a >>> D = lN (a / 2 ^ d) := by
  have hd : a / 2 ^ d ≤ a := Nat.div_le_self _ _
  apply Int64.toInt_inj.mp
  have e : (lN a >>> D).toInt = (lN a).toInt >>> d := by
    rw [← hD]
    exact BitVec.toInt_sshiftRight ..
  rw [e, Int.shiftRight_eq_div_pow, pk_lT (by omega), pk_lT (by omega)]
  rfl
set_option maxHeartbeats 4000000 in
theorem lN_and1 {a : Nat} (ha : a < 2 ^ 63) : lN a &&& 1 = lN (a % 2) := by
  apply Int64.toBitVec_inj.mp
  show BitVec.ofNat 64 a &&& 1#64 = BitVec.ofNat 64 (a % 2)
  apply BitVec.eq_of_toNat_eq
  rw [BitVec.toNat_and, BitVec.toNat_ofNat, BitVec.toNat_ofNat, BitVec.toNat_ofNat, Nat.mod_eq_of_lt (show a < 2 ^ 64 by omega), Nat.mod_eq_of_lt (show a % 2 < 2 ^ 64 by omega)]
  exact Nat.and_two_pow_sub_one_eq_mod a 1
set_option maxHeartbeats 4000000 in
theorem odd_gcd {a : Nat} (h : a % 2 = 1) (k : Nat) : Nat.gcd a (2 ^ k) = 1 := by
  have c : Nat.Coprime a 2 := by
    show Nat.gcd a 2 = 1
    rw [Nat.gcd_comm, Nat.gcd_rec, h]
    rfl
  exact Nat.Coprime.pow_right k c
set_option maxHeartbeats 4000000 in
theorem even_gcd {a : Nat} (h : a % 2 = 0) (k : Nat) : Nat.gcd a (2 ^ (k + 1)) = 2 * Nat.gcd (a / 2) (2 ^ k) := by
  have e : a = 2 * (a / 2) := by omega
  rw [Nat.pow_succ, Nat.mul_comm (2 ^ k) 2, ← Nat.gcd_mul_left, ← e]
set_option maxHeartbeats 4000000 in
theorem l6_halve {a3 : Int32} {s : xSt} {K : Int64 → Int64 → xSt → Prop} {Q : Int64 → xSt → Prop} : ∀ k i S n, k + i ≤ 32 → 33 ≤ n + i → S < 2 ^ 62 → K (lN (S / Nat.gcd S (2 ^ k))) (lN (2 ^ k / Nat.gcd S (2 ^ k))) s → d6_chance_L54 a3 K Q n (lN S) (lN (2 ^ k)) (nI i) s := by
  intro k
  induction k with
  | zero =>
    intro i S n hi hn hS hq
    obtain ⟨n, rfl⟩ : ∃ n', n = n' + 1 := ⟨n - 1, by omega⟩
    rw [Nat.pow_zero, Nat.gcd_one_right, Nat.div_one, Nat.div_one] at hq
    rw [d6_chance_L54, Nat.pow_zero]
    exact ⟨fun _ => hq, fun _ => br_t (by decide) hq⟩
  | succ k ih =>
    intro i S n hi hn hS hq
    obtain ⟨n, rfl⟩ : ∃ n', n = n' + 1 := ⟨n - 1, by omega⟩
    have p1 : 2 ^ (k + 1) ≤ 2 ^ 32 := Nat.pow_le_pow_right (by decide) (by omega)
    have p0 : 0 < 2 ^ k := Nat.pow_pos (by decide)
    have p2 : 2 ^ (k + 1) = 2 * 2 ^ k := by rw [Nat.pow_succ, Nat.mul_comm]
    have e1 : lN (2 ^ (k + 1)) ≤ 1 ↔ 2 ^ (k + 1) ≤ 1 := pk_lLE (b := 1) (by omega) (by omega)
    have e2 : lN (S % 2) = 0 ↔ S % 2 = 0 := pk_lEQ (b := 0) (by omega) (by omega)
    rw [d6_chance_L54, lN_and1 (by omega), lg_cmp_le, e1, lg_cmp_eq, e2]
    refine br_f (nle (a := 32) (by omega) (by omega)) (br_f (by omega) ⟨fun c => ?_, fun c => ?_⟩)
    · rw [odd_gcd (by omega), Nat.div_one, Nat.div_one] at hq
      exact hq
    · intro v14 e14 v15 e15 v16 e16
      rw [pf_shr (d := 1) (by decide) hS] at e14
      rw [pf_shr (d := 1) (by decide) (by omega)] at e15
      rw [nI_1] at e16
      have e17 : 2 ^ (k + 1) / 2 ^ 1 = 2 ^ k := by omega
      rw [e17] at e15
      have e18 : S / 2 ^ 1 = S / 2 := by rw [Nat.pow_one]
      rw [e18] at e14
      subst e14 e15 e16
      refine ih (i + 1) (S / 2) n (by omega) (by omega) (by omega) ?_
      rw [even_gcd c, p2, Nat.mul_div_mul_left _ _ (by decide), ← Nat.div_div_eq_div_mul] at hq
      exact hq
set_option maxHeartbeats 4000000 in
theorem l7_gcd {a0 a2 : Int64} {a4 : Int32} {s : xSt} {K Q : Int64 → xSt → Prop} : ∀ k n x y, y < 2 ^ k → 2 * k + 1 ≤ n → x < 2 ^ 62 → y < 2 ^ 62 → K (lN (Nat.gcd x y)) s → d7_lowest_L6 a0 a2 a4 K Q n (lN x) (lN y) s := by
  intro k
  induction k with
  | zero =>
    intro n x y hy hn hx hy2 hq
    obtain ⟨n, rfl⟩ : ∃ n', n = n' + 1 := ⟨n - 1, by omega⟩
    have : y = 0 := by omega
    subst this
    rw [Nat.gcd_zero_right] at hq
    rw [d7_lowest_L6]
    exact br_t (by decide) hq
  | succ k ih =>
    intro n x y hy hn hx hy2 hq
    obtain ⟨n, rfl⟩ : ∃ n', n = n' + 1 + 1 := ⟨n - 2, by omega⟩
    have e1 : lN y = 0 ↔ y = 0 := pk_lEQ (b := 0) (by omega) (by omega)
    rw [d7_lowest_L6, lg_cmp_eq, e1]
    by_cases c : y = 0
    · subst c
      rw [Nat.gcd_zero_right] at hq
      exact br_t rfl hq
    refine br_f c ⟨c, ?_⟩
    intro v3 e3
    rw [pk_lRem (by omega) (by omega) (by omega)] at e3
    subst e3
    have r1 : x % y < y := Nat.mod_lt _ (by omega)
    have e2 : lN (x % y) = 0 ↔ x % y = 0 := pk_lEQ (b := 0) (by omega) (by omega)
    rw [Nat.gcd_comm, Nat.gcd_rec] at hq
    rw [d7_lowest_L6, lg_cmp_eq, e2]
    by_cases d : x % y = 0
    · rw [d, Nat.gcd_zero_left] at hq
      exact br_t d hq
    refine br_f d ⟨d, ?_⟩
    intro v3 e3
    rw [pk_lRem (by omega) (by omega) (by omega)] at e3
    subst e3
    have r2 : y % (x % y) < x % y := Nat.mod_lt _ (by omega)
    have r3 := Nat.div_add_mod y (x % y)
    have r4 : 1 ≤ y / (x % y) := (Nat.le_div_iff_mul_le (by omega)).mpr (by omega)
    have r5 : x % y * 1 ≤ x % y * (y / (x % y)) := Nat.mul_le_mul_left _ r4
    have p2 : 2 ^ (k + 1) = 2 * 2 ^ k := by rw [Nat.pow_succ, Nat.mul_comm]
    rw [Nat.gcd_rec, Nat.gcd_comm] at hq
    exact ih n (x % y) (y % (x % y)) (by omega) (by omega) (by omega) (by omega) hq
set_option maxHeartbeats 4000000 in
theorem l7_lowest {S k : Nat} {a : Int32} {s : xSt} {Q : Int64 → xSt → Prop} (hS : S < 2 ^ 62) (hk : k ≤ 32) (hq : Q (if a = 0 then lN (S / Nat.gcd S (2 ^ k)) else lN (2 ^ k / Nat.gcd S (2 ^ k))) s) : d7_lowest (lN S) (lN (2 ^ k)) a s Q := by
  have p0 : 0 < 2 ^ k := Nat.pow_pos (by decide)
  have p1 : 2 ^ k ≤ 2 ^ 32 := Nat.pow_le_pow_right (by decide) hk
  have g0 : 0 < Nat.gcd S (2 ^ k) := Nat.gcd_pos_of_pos_right _ p0
  have g1 : Nat.gcd S (2 ^ k) ≤ 2 ^ k := Nat.gcd_le_right _ p0
  have e1 : lN (Nat.gcd S (2 ^ k)) = 0 ↔ Nat.gcd S (2 ^ k) = 0 := pk_lEQ (b := 0) (by omega) (by omega)
  unfold d7_lowest
  refine l7_gcd 33 x_lim S (2 ^ k) (by omega) (by decide) hS (by omega) ?_
  rw [pk_lDiv (by omega) g0 (by omega), pk_lDiv (by omega) g0 (by omega), e1]
  refine ⟨fun c => ⟨by omega, ?_⟩, fun c => ⟨by omega, ?_⟩⟩
  · rw [if_neg c] at hq; exact hq
  · rw [if_pos c] at hq; exact hq
