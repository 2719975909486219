/-! the share, as a double -/
theorem fl_pc {a b n : Nat} (h : a * 2 ^ n = b * 2 ^ n) : a = b := Nat.eq_of_mul_eq_mul_right (Nat.two_pow_pos n) h
theorem fl_sm {a : Int} (h : rg a) : FP.Core.Small53 (iI a).toInt64 ∧ (iI a).toInt64.toInt = a := by
  have h1 : (iI a).toInt64.toInt = a := by rw [Int32.toInt_toInt64, iI_toInt h]
  refine ⟨?_, h1⟩
  unfold FP.Core.Small53
  rw [h1]; obtain ⟨h2, h3⟩ := h; omega
theorem fl_val {a b : Int} (ha : 0 ≤ a) (hab : a ≤ b) (hb : 0 < b) (hb2 : b ≤ 1000000000) : FP.Core.val64 (FP.ddiv (FP.i2d (iI a)) (FP.i2d (iI b))) = FP.Core.roundRatio FP.Core.b64 false a.toNat b.toNat 0 := by
  have sa := fl_sm (a := a) ⟨by omega, by omega⟩
  have sb := fl_sm (a := b) ⟨by omega, by omega⟩
  obtain ⟨c1, q1, h1⟩ := FP.Core.l2d_shape (iI a).toInt64
  obtain ⟨c2, q2, h2⟩ := FP.Core.l2d_shape (iI b).toInt64
  have w1 := FP.Core.l2d_whole sa.1
  have w2 := FP.Core.l2d_whole sb.1
  rw [h1, sa.2] at w1
  rw [h2, sb.2] at w2
  rw [sa.2, show decide (a < 0) = false from decide_eq_false (by omega)] at h1
  rw [sb.2, show decide (b < 0) = false from decide_eq_false (by omega)] at h2
  have n1 := FP.Core.whole_natAbs w1
  have n2 := FP.Core.whole_natAbs w2
  have z2 := FP.Core.whole_zero w2
  have e1 : a.natAbs = a.toNat := by omega
  have e2 : b.natAbs = b.toNat := by omega
  rw [e1] at n1
  rw [e2] at n2
  show FP.Core.val64 (FP.Core.ddiv (FP.Core.i2d (iI a)) (FP.Core.i2d (iI b))) = _
  rw [FP.Core.val64_ddiv, FP.Core.i2d_l2d, FP.Core.i2d_l2d, h1, h2]
  show (if c2 = 0 then _ else FP.Core.roundRatio FP.Core.b64 (false != false) c1 c2 (q1 - q2)) = _
  rw [if_neg (by omega)]
  refine FP.Core.roundRatio_congr (by omega) (by omega) ?_
  refine fl_pc (n := (-q1).toNat + q2.toNat) ?_
  have k : (q1 - q2 - 0).toNat + ((-q1).toNat + q2.toNat) = (0 - (q1 - q2)).toNat + (q1.toNat + (-q2).toNat) := by omega
  calc c1 * b.toNat * 2 ^ (q1 - q2 - 0).toNat * 2 ^ ((-q1).toNat + q2.toNat)
      = c1 * b.toNat * 2 ^ ((q1 - q2 - 0).toNat + ((-q1).toNat + q2.toNat)) := by rw [Nat.mul_assoc, ← Nat.pow_add]
    _ = c1 * b.toNat * (2 ^ (0 - (q1 - q2)).toNat * (2 ^ q1.toNat * 2 ^ (-q2).toNat)) := by rw [k, Nat.pow_add, Nat.pow_add]
    _ = (c1 * 2 ^ q1.toNat) * (b.toNat * 2 ^ (-q2).toNat) * 2 ^ (0 - (q1 - q2)).toNat := by ac_rfl
    _ = (a.toNat * 2 ^ (-q1).toNat) * (c2 * 2 ^ q2.toNat) * 2 ^ (0 - (q1 - q2)).toNat := by rw [n1, n2]
    _ = a.toNat * c2 * 2 ^ (0 - (q1 - q2)).toNat * (2 ^ (-q1).toNat * 2 ^ q2.toNat) := by ac_rfl
    _ = a.toNat * c2 * 2 ^ (0 - (q1 - q2)).toNat * 2 ^ ((-q1).toNat + q2.toNat) := by rw [Nat.pow_add]
/-- a number from 2^-30 to 1 -/
def flF (x : UInt64) (c : Nat) (q : Int) : Prop := FP.Core.val64 x = .fin false c q ∧ 4503599627370496 ≤ c ∧ c < 9007199254740992 ∧ -82 ≤ q ∧ q ≤ -52
theorem fl_fits {c : Nat} {q : Int} (h1 : 4503599627370496 ≤ c) (h2 : c < 9007199254740992) (h3 : -1074 ≤ q) (h4 : q ≤ 900) : FP.Core.fits FP.Core.b64 (.fin false c q) := by
  refine ⟨?_, ?_, ?_, Or.inr ?_⟩
  · show c < 2 ^ 53; omega
  · show 2 - ((2 ^ 10 - 1 : Nat) : Int) - ((53 : Nat) : Int) ≤ q; omega
  · show q ≤ ((2 ^ 10 - 1 : Nat) : Int) - ((53 : Nat) : Int) + 1; omega
  · show 2 ^ 52 ≤ c; omega
theorem fl_zmag (s : Bool) (c : Nat) (q : Int) : FP.Core.zmag FP.Core.b64 (.fin s c q) = c * 2 ^ (q + 1074).toNat := by
  show c * 2 ^ (q - (2 - ((2 ^ 10 - 1 : Nat) : Int) - ((53 : Nat) : Int))).toNat = _
  rw [show q - (2 - ((2 ^ 10 - 1 : Nat) : Int) - ((53 : Nat) : Int)) = q + 1074 by omega]
theorem fl_shape {A B : Nat} (hA : 0 < A) (hAB : A ≤ B) (hB : B ≤ 1000000000) : ∃ c q, FP.Core.roundRatio FP.Core.b64 false A B 0 = .fin false c q ∧ 4503599627370496 ≤ c ∧ c < 9007199254740992 ∧ -82 ≤ q ∧ q ≤ -52 ∧ (q = -52 → c = 4503599627370496) := by
  have hf := FP.Core.roundRatio_fits FP.Core.good_b64 false A (B := B) (by omega) 0
  have hs := FP.Core.sgn_roundRatio FP.Core.b64 false A B 0
  have hu : FP.Core.inUnits A 0 (-1074) = A * 2 ^ 1074 := rfl
  have qm : FP.Core.b64.qmin = -1074 := by decide
  have e00 : ((-1074 : Int) - -1074).toNat = 0 := rfl
  have f1 := fl_fits (c := 4503599627370496) (q := -52) (by omega) (by omega) (by omega) (by omega)
  have f2 := fl_fits (c := 4503599627370496) (q := -82) (by omega) (by omega) (by omega) (by omega)
  have z1 : FP.Core.zmag FP.Core.b64 (.fin false 4503599627370496 (-52)) = 2 ^ 1074 := by rw [fl_zmag]; decide +kernel
  have z2 : FP.Core.zmag FP.Core.b64 (.fin false 4503599627370496 (-82)) = 2 ^ 1044 := by rw [fl_zmag]; decide +kernel
  have le := FP.Core.zmag_roundRatio_le FP.Core.good_b64 (s := false) (A := A) (B := B) (e := 0) (e0 := -1074) (V := .fin false 4503599627370496 (-52)) (by omega) f1 (by simp) (by rw [qm]; decide) (by decide) (by
    rw [hu, z1, qm, Nat.mul_comm A, e00, Nat.pow_zero, Nat.mul_one]; exact Nat.mul_le_mul_left _ hAB)
  have ge := FP.Core.zmag_roundRatio_ge FP.Core.good_b64 (s := false) (A := A) (B := B) (e := 0) (e0 := -1074) (V := .fin false 4503599627370496 (-82)) (by omega) f2 (by rw [qm]; decide) (by decide) (by
    rw [hu, z2, qm, e00, Nat.pow_zero, Nat.mul_one, show (1074 : Nat) = 1044 + 30 from rfl, Nat.pow_add, Nat.mul_comm (2 ^ 1044), Nat.mul_comm A, Nat.mul_comm (2 ^ 1044), Nat.mul_right_comm]
    exact Nat.mul_le_mul_right _ (by omega))
  rw [z1] at le
  rw [z2] at ge
  generalize FP.Core.roundRatio FP.Core.b64 false A B 0 = d at *
  cases d with
  | nan => exact absurd ge (by show ¬ 2 ^ 1044 ≤ 0; decide +kernel)
  | inf s =>
    have hz : FP.Core.zmag FP.Core.b64 (.inf s) = 2 ^ 2098 := by cases s <;> decide +kernel
    rw [hz] at le
    exact absurd le (Nat.not_le_of_lt (Nat.pow_lt_pow_right (by decide) (by decide)))
  | fin s c q =>
    have hs2 : s = false := hs
    subst hs2
    rw [fl_zmag] at le ge
    obtain ⟨g1, g2, g3, g4⟩ := hf
    have g1' : c < 2 ^ 53 := g1
    rw [qm] at g2 g4
    have n1 : 992 ≤ (q + 1074).toNat := by
      apply Decidable.byContradiction; intro hn
      have h1 : c * 2 ^ (q + 1074).toNat < 2 ^ 53 * 2 ^ 991 := Nat.lt_of_lt_of_le ((Nat.mul_lt_mul_right (Nat.two_pow_pos _)).mpr g1') (Nat.mul_le_mul_left _ (Nat.pow_le_pow_right (by decide) (by omega)))
      rw [← Nat.pow_add] at h1
      exact absurd (Nat.lt_of_le_of_lt ge h1) (Nat.lt_irrefl _)
    have g5 : 4503599627370496 ≤ c := by
      rcases g4 with g4 | g4
      · omega
      · exact g4
    have n2 : (q + 1074).toNat ≤ 1022 := by
      apply Decidable.byContradiction; intro hn
      have h1 : 2 ^ 52 * 2 ^ 1023 ≤ c * 2 ^ (q + 1074).toNat := Nat.mul_le_mul g5 (Nat.pow_le_pow_right (by decide) (by omega))
      rw [← Nat.pow_add] at h1
      have h2 := Nat.le_trans h1 le
      exact absurd h2 (Nat.not_le_of_lt (Nat.pow_lt_pow_right (by decide) (by decide)))
    refine ⟨c, q, rfl, g5, by omega, by omega, by omega, fun hq => ?_⟩
    subst hq
    have h3 : c * 2 ^ 1022 ≤ 2 ^ 52 * 2 ^ 1022 := by rw [← Nat.pow_add]; exact le
    have h4 := Nat.le_of_mul_le_mul_right h3 (Nat.two_pow_pos 1022)
    omega
theorem fl_bits {x : UInt64} {c : Nat} {q : Int} (h : FP.Core.val64 x = .fin false c q) (h1 : 4503599627370496 ≤ c) (h2 : c < 9007199254740992) (h3 : -1074 ≤ q) (h4 : q ≤ 900) : x.toNat = ((q + 1074).toNat + 1) * 4503599627370496 + (c - 4503599627370496) := by
  have hx := FP.Core.of64_val64 (a := x) (by rw [h]; simp)
  rw [h] at hx
  rw [← hx]
  show (UInt64.ofNat (if c < 2 ^ 52 then _ else ((false.toNat * 2 ^ 11 + ((q - (2 - ((2 ^ 10 - 1 : Nat) : Int) - ((53 : Nat) : Int))).toNat + 1)) * 2 ^ 52 + (c - 2 ^ 52)))).toNat = _
  rw [if_neg (by omega), show q - (2 - ((2 ^ 10 - 1 : Nat) : Int) - ((53 : Nat) : Int)) = q + 1074 by omega]
  rw [UInt64.toNat_ofNat_of_lt' (by show _ < 18446744073709551616; simp; omega)]
  simp

/-- times two -/
theorem fl_two : FP.Core.val64 4611686018427387904 = .fin false 4503599627370496 (-51) := by decide +kernel
theorem fl_one : FP.Core.val64 FP.dconst1 = .fin false 4503599627370496 (-52) := by decide +kernel
theorem fl_dbl {y : UInt64} {c : Nat} {q : Int} (h : FP.Core.val64 y = .fin false c q) (h1 : 4503599627370496 ≤ c) (h2 : c < 9007199254740992) (h3 : -1000 ≤ q) (h4 : q ≤ 0) : FP.Core.val64 (FP.dmul y 4611686018427387904) = .fin false c (q + 1) := by
  show FP.Core.val64 (FP.Core.dmul y 4611686018427387904) = _
  rw [FP.Core.val64_dmul, h, fl_two]
  show FP.Core.roundRatio FP.Core.b64 (false != false) (c * 4503599627370496) 1 (q + -51) = _
  refine FP.Core.roundRatio_exact FP.Core.good_b64 (by decide) (fl_fits h1 h2 (by omega) (by omega)) ?_
  rw [show q + -51 - (q + 1) = -52 by omega, show q + 1 - (q + -51) = 52 by omega]
  show c * 4503599627370496 * 1 = c * 1 * 4503599627370496
  omega
theorem fl_nn {y : UInt64} {c : Nat} {q : Int} (h : FP.Core.val64 y = .fin false c q) (h1 : 4503599627370496 ≤ c) (h2 : c < 9007199254740992) (h3 : -1074 ≤ q) (h4 : q ≤ 900) : y.toNat ≤ 9218868437227405312 := by
  rw [fl_bits h h1 h2 h3 h4]; omega
theorem fl_n64 {y : UInt64} (h : y.toNat ≤ 9218868437227405312) : vf_n64 y := by
  unfold vf_n64
  rw [UInt64.le_iff_toNat_le, UInt64.toNat_and]
  exact Nat.le_trans Nat.and_le_left h
theorem fl_cmp {y : UInt64} {c : Nat} {q : Int} (h : FP.Core.val64 y = .fin false c q) (h1 : 4503599627370496 ≤ c) (h2 : c < 9007199254740992) (h3 : -1000 ≤ q) (h4 : q ≤ -52) : (q < -52 → FP.dcmp y FP.dconst1 = some .lt) ∧ (q = -52 → FP.dcmp y FP.dconst1 = some .gt ∨ FP.dcmp y FP.dconst1 = some .eq) := by
  have e : FP.dcmp y FP.dconst1 = some (compare ((c : Int) * 1) (((4503599627370496 * 2 ^ (-52 - q).toNat : Nat)) : Int)) := by
    show FP.Core.order (FP.Core.val64 y) (FP.Core.val64 FP.dconst1) = _
    rw [h, fl_one]
    show some (compare (((c * 2 ^ (q - min q (-52)).toNat : Nat)) : Int) (((4503599627370496 * 2 ^ (-52 - min q (-52)).toNat : Nat)) : Int)) = _
    rw [show min q (-52) = q by omega, show (q - q).toNat = 0 by omega]
    simp
  rw [e]
  constructor
  · intro hq
    have h5 : 2 ^ 1 ≤ 2 ^ (-52 - q).toNat := Nat.pow_le_pow_right (by decide) (by omega)
    have h6 : 4503599627370496 * 2 ^ 1 ≤ 4503599627370496 * 2 ^ (-52 - q).toNat := Nat.mul_le_mul_left _ h5
    have h7 : (c : Int) * 1 < ((4503599627370496 * 2 ^ (-52 - q).toNat : Nat) : Int) := by omega
    rw [show compare ((c : Int) * 1) (((4503599627370496 * 2 ^ (-52 - q).toNat : Nat)) : Int) = .lt from Int.compare_eq_lt.mpr h7]
  · intro hq
    subst hq
    have h7 : (4503599627370496 : Int) ≤ (c : Int) * 1 := by omega
    show some (compare ((c : Int) * 1) (4503599627370496 : Int)) = _ ∨ some (compare ((c : Int) * 1) (4503599627370496 : Int)) = _
    by_cases h8 : (c : Int) * 1 = 4503599627370496
    · right; rw [h8]; rfl
    · left; rw [Int.compare_eq_gt.mpr (by omega)]
/-- the digits behind the leading one -/
theorem fl_frac {y : UInt64} {c : Nat} (h : FP.Core.val64 y = .fin false c (-52)) (h1 : 4503599627370496 ≤ c) (h2 : c < 9007199254740992) : vf_n64 (FP.dsub y FP.dconst1) ∧ vf_n64 (FP.dmul (FP.dsub y FP.dconst1) 4841369599423283200) ∧ FP.d2l (FP.dmul (FP.dsub y FP.dconst1) 4841369599423283200) = lI ((c - 4503599627370496 : Nat) : Int) := by
  obtain ⟨t, ht⟩ : ∃ t, t = c - 4503599627370496 := ⟨_, rfl⟩
  have c52 : FP.Core.val64 4841369599423283200 = .fin false 4503599627370496 0 := by decide +kernel
  have hs : FP.Core.val64 (FP.dsub y FP.dconst1) = FP.Core.roundRatio FP.Core.b64 false t 1 (-52) := by
    show FP.Core.val64 (FP.Core.dsub y FP.Core.dconst1) = _
    rw [FP.Core.val64_dsub, h, show FP.Core.val64 FP.Core.dconst1 = _ from fl_one]
    show FP.Core.roundRatio FP.Core.b64 (FP.Core.sumSign false true ((c * 1 : Nat) + -((4503599627370496 * 1 : Nat) : Int))) ((c * 1 : Nat) + -((4503599627370496 * 1 : Nat) : Int)).natAbs 1 (-52) = _
    have hv : ((c * 1 : Nat) : Int) + -((4503599627370496 * 1 : Nat) : Int) = (t : Int) := by omega
    rw [hv, Int.natAbs_natCast]
    have hg : FP.Core.sumSign false true (t : Int) = false := by
      unfold FP.Core.sumSign; split
      · rfl
      · exact decide_eq_false (by omega)
    rw [hg]
  rw [← ht]
  by_cases h0 : t = 0
  · subst h0
    have hz : FP.Core.val64 (FP.dsub y FP.dconst1) = FP.Core.val64 0 := by rw [hs]; decide +kernel
    have hx : FP.dsub y FP.dconst1 = 0 := FP.Core.val64_inj (by rw [hz]; decide +kernel) hz
    rw [hx]
    exact ⟨fl_n64 (by decide), fl_n64 (by decide +kernel), by decide +kernel⟩
  · obtain ⟨k, hk⟩ : ∃ k, k = t.log2 := ⟨_, rfl⟩
    have k1 : 2 ^ k ≤ t := by rw [hk]; exact Nat.log2_self_le h0
    have k2 : t < 2 ^ (k + 1) := by rw [hk]; exact Nat.lt_log2_self
    have k3 : k < 52 := by
      apply Decidable.byContradiction; intro hn
      have : 2 ^ 52 ≤ 2 ^ k := Nat.pow_le_pow_right (by decide) (by omega)
      omega
    have p1 : 2 ^ k * 2 ^ (52 - k) = 2 ^ 52 := by rw [← Nat.pow_add]; congr 1; omega
    have p2 : 2 ^ (k + 1) * 2 ^ (52 - k) = 2 ^ 53 := by rw [← Nat.pow_add]; congr 1; omega
    have m1 : 4503599627370496 ≤ t * 2 ^ (52 - k) := by
      have := Nat.mul_le_mul_right (2 ^ (52 - k)) k1; omega
    have m2 : t * 2 ^ (52 - k) < 9007199254740992 := by
      have := (Nat.mul_lt_mul_right (Nat.two_pow_pos (52 - k))).mpr k2; omega
    have hs2 : FP.Core.val64 (FP.dsub y FP.dconst1) = .fin false (t * 2 ^ (52 - k)) ((k : Int) - 104) := by
      rw [hs]
      refine FP.Core.roundRatio_exact FP.Core.good_b64 (by decide) (fl_fits m1 m2 (by omega) (by omega)) ?_
      rw [show (-52 - ((k : Int) - 104)).toNat = 52 - k by omega, show ((k : Int) - 104 - -52).toNat = 0 by omega]
      omega
    have hp : FP.Core.val64 (FP.dmul (FP.dsub y FP.dconst1) 4841369599423283200) = .fin false (t * 2 ^ (52 - k)) ((k : Int) - 52) := by
      show FP.Core.val64 (FP.Core.dmul (FP.dsub y FP.dconst1) 4841369599423283200) = _
      rw [FP.Core.val64_dmul, hs2, c52]
      show FP.Core.roundRatio FP.Core.b64 (false != false) (t * 2 ^ (52 - k) * 4503599627370496) 1 ((k : Int) - 104 + 0) = _
      refine FP.Core.roundRatio_exact FP.Core.good_b64 (by decide) (fl_fits m1 m2 (by omega) (by omega)) ?_
      rw [show (k : Int) - 104 + 0 - ((k : Int) - 52) = -52 by omega, show (k : Int) - 52 - ((k : Int) - 104 + 0) = 52 by omega]
      show t * 2 ^ (52 - k) * 4503599627370496 * 1 = t * 2 ^ (52 - k) * 1 * 4503599627370496
      omega
    refine ⟨fl_n64 (fl_nn hs2 m1 m2 (by omega) (by omega)), fl_n64 (fl_nn hp m1 m2 (by omega) (by omega)), ?_⟩
    show Int64.ofInt (FP.Core.toInt (-2 ^ 63) (2 ^ 63 - 1) (FP.Core.val64 (FP.dmul (FP.dsub y FP.dconst1) 4841369599423283200))) = _
    rw [hp]
    show Int64.ofInt (max (-2 ^ 63) (min (2 ^ 63 - 1) ((t * 2 ^ (52 - k) * 2 ^ ((k : Int) - 52).toNat / 2 ^ (-((k : Int) - 52)).toNat : Nat) : Int))) = _
    rw [show ((k : Int) - 52).toNat = 0 by omega, show (-((k : Int) - 52)).toNat = 52 - k by omega, Nat.pow_zero, Nat.mul_one, Nat.mul_div_cancel _ (Nat.two_pow_pos _)]
    unfold lI; congr 1; omega
