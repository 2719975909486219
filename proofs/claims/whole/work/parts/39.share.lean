section VF
variable {p : Program} {l : Launch} {e : Env} {R : Room} {s : State} {m : MethodId} {args : Array Value} {below : List Frame} {meth : Method} {c : Code} {cells slots : Nat} {Q : State → Prop} {cc : ByteArray} {nL : Nat} {own : String} {L : Lay} {g : St} {pc : Nat} {lv : List (Nat × Value)} {st : List Value} {ix : Nat}
theorem v_d2lz (C : Cx p s m args c cc nL own L) {x : UInt64} {z : Int} (hz : FP.d2l x = lI z) (hdg : decode cc pc = .ok (.d2l, 1)) (k : V p l e R s m args below meth c nL L (HH L g) cells slots Q (pc + 1) lv (.long (lI z) :: st)) : V p l e R s m args below meth c nL L (HH L g) cells slots Q (pc) lv (.double x :: st) := v_d2l C hdg (hz.symm ▸ k)
theorem v_lshl (C : Cx p s m args c cc nL own L) {a b v : Int} (hv : lI a <<< ((iI b).toInt64 &&& 63) = lI v) (hdg : decode cc pc = .ok (.lshl, 1)) (k : V p l e R s m args below meth c nL L (HH L g) cells slots Q (pc + 1) lv (.long (lI v) :: st)) : V p l e R s m args below meth c nL L (HH L g) cells slots Q (pc) lv (.int (iI b) :: .long (lI a) :: st) := fun H locs ls hI hS hl => lv_lshl C.1 C.2.1 hdg hv (k H locs ls hI hS hl)
theorem v_lor (C : Cx p s m args c cc nL own L) {a b v : Int} (hv : lI a ||| lI b = lI v) (hdg : decode cc pc = .ok (.lor, 1)) (k : V p l e R s m args below meth c nL L (HH L g) cells slots Q (pc + 1) lv (.long (lI v) :: st)) : V p l e R s m args below meth c nL L (HH L g) cells slots Q (pc) lv (.long (lI b) :: .long (lI a) :: st) := fun H locs ls hI hS hl => lv_lor C.1 C.2.1 hdg (by rw [hv]; exact k H locs ls hI hS hl)
end VF
theorem fl_shl : ∀ n : Fin 32, lI (992 + (n : Nat)) <<< ((iI 52).toInt64 &&& 63) = lI ((992 + (n : Nat)) * 4503599627370496) := by decide +kernel
theorem fl_sh {e : Int} (h : 992 ≤ e ∧ e ≤ 1023) : lI e <<< ((iI 52).toInt64 &&& 63) = lI (e * 4503599627370496) := by
  have h1 := fl_shl ⟨(e - 992).toNat, by omega⟩
  have h2 : (992 : Int) + (((⟨(e - 992).toNat, by omega⟩ : Fin 32) : Nat) : Int) = e := by show (992 : Int) + ((e - 992).toNat : Int) = e; omega
  rw [h2] at h1; exact h1
theorem lI_nat (n : Nat) : (lI (n : Int)).toBitVec = BitVec.ofNat 64 n := by
  show BitVec.ofInt 64 (n : Int) = _
  exact BitVec.ofInt_natCast 64 n
theorem fl_or {e t : Nat} (he : e < 2048) (ht : t < 4503599627370496) : lI ((e : Int) * 4503599627370496) ||| lI (t : Int) = lI ((e : Int) * 4503599627370496 + t) := by
  have e1 : (e : Int) * 4503599627370496 = ((2 ^ 52 * e : Nat) : Int) := by omega
  have e2 : (e : Int) * 4503599627370496 + t = ((2 ^ 52 * e + t : Nat) : Int) := by omega
  rw [e2, e1, Nat.two_pow_add_eq_or_of_lt (by omega) e]
  apply Int64.toBitVec_inj.mp
  rw [Int64.toBitVec_or, lI_nat, lI_nat, lI_nat]
  apply BitVec.eq_of_toNat_eq
  rw [BitVec.toNat_or, BitVec.toNat_ofNat, BitVec.toNat_ofNat, BitVec.toNat_ofNat, ← Nat.two_pow_add_eq_or_of_lt (by omega) e]
  rw [Nat.mod_eq_of_lt (by omega), Nat.mod_eq_of_lt (by omega), Nat.mod_eq_of_lt (by omega)]
  exact (Nat.two_pow_add_eq_or_of_lt (by omega) e).symm
theorem fl_long (x : UInt64) : x.toInt64 = lI (x.toNat : Int) := by
  apply Int64.toBitVec_inj.mp
  rw [lI_nat]
  apply BitVec.eq_of_toNat_eq
  rw [BitVec.toNat_ofNat]
  show x.toNat = _
  rw [Nat.mod_eq_of_lt x.toNat_lt]
theorem fl_z {y : UInt64} {c : Nat} {q : Int} (h : FP.Core.val64 y = .fin false c q) (h1 : 4503599627370496 ≤ c) (h2 : c < 9007199254740992) (h3 : -1000 ≤ q) (h4 : q ≤ -52) : (q < -52 → (Op.cmpValue (FP.dcmp y FP.dconst1) .g).toInt = -1) ∧ (q = -52 → 0 ≤ (Op.cmpValue (FP.dcmp y FP.dconst1) .g).toInt) := by
  have hc := fl_cmp h h1 h2 h3 h4
  refine ⟨fun hq => by rw [hc.1 hq]; decide, fun hq => ?_⟩
  rcases hc.2 hq with hx | hx <;> rw [hx] <;> decide
theorem fl_0 : FP.Core.val64 0 = .fin false 0 (-1074) := by decide +kernel
theorem fl_gt {x : UInt64} {c : Nat} {q : Int} (h : flF x c q) : x ≠ 0 ∧ FP.dcmp x FP.dconst0 = some .gt := by
  obtain ⟨h, h1, h2, h3, h4⟩ := h
  refine ⟨fun hx => ?_, ?_⟩
  · subst hx; rw [fl_0] at h; injection h with a b d; omega
  · show FP.Core.order (FP.Core.val64 x) (FP.Core.val64 0) = _
    rw [h, fl_0]
    show some (compare (((c * 2 ^ (q - min q (-1074)).toNat : Nat)) : Int) (((0 * 2 ^ (-1074 - min q (-1074)).toNat : Nat)) : Int)) = _
    have hp : 0 < c * 2 ^ (q - min q (-1074)).toNat := Nat.mul_pos (by omega) (Nat.two_pow_pos _)
    rw [Int.compare_eq_gt.mpr (by omega)]
/-- the share -/
def shD (a b : Int) : UInt64 := if 0 < b then FP.ddiv (FP.i2d (iI a)) (FP.i2d (iI b)) else FP.dconst1
theorem sh_F {a b : Int} (ha : 0 ≤ a) (hab : a ≤ b) (hb2 : b ≤ 1000000000) : shD a b = 0 ∨ ∃ c q, flF (shD a b) c q := by
  unfold shD; split
  · rename_i hb
    have hv := fl_val ha hab hb hb2
    by_cases h0 : a = 0
    · subst h0
      left
      have hz : FP.Core.val64 (FP.ddiv (FP.i2d (iI 0)) (FP.i2d (iI b))) = FP.Core.val64 0 := by rw [hv, fl_0]; rfl
      exact FP.Core.val64_inj (by rw [hz, fl_0]; simp) hz
    · right
      obtain ⟨c, q, h1, h2, h3, h4, h5, -⟩ := fl_shape (A := a.toNat) (B := b.toNat) (by omega) (by omega) (by omega)
      exact ⟨c, q, by rw [hv]; exact h1, h2, h3, h4, h5⟩
  · exact Or.inr ⟨4503599627370496, -52, fl_one, by decide, by decide, by decide, by decide⟩
theorem sh_nn {a b : Int} (ha : 0 ≤ a) (hab : a ≤ b) (hb2 : b ≤ 1000000000) : vf_n64 (shD a b) := by
  rcases sh_F ha hab hb2 with h | ⟨c, q, h⟩
  · rw [h]; exact fl_n64 (by decide)
  · exact fl_n64 (fl_nn h.1 h.2.1 h.2.2.1 (by have := h.2.2.2.1; omega) (by have := h.2.2.2.2; omega))
def shK (g : St) (k : Int) : UInt64 := shD (smN g k 4) (smN g k 4 + smN g k 5 + smN g k 6)

set_option maxHeartbeats 4000000 in
set_option maxRecDepth 100000 in
theorem ct_X6_bitsOf (l : Launch) (L : Lay) (g : St) (x : UInt64) (c : Nat) (q : Int) (hx : x = 0 ∨ flF x c q) : Met l yX6_bitsOf (.code yX6_bitsOf cX6_bitsOf 7 (some .long) :: wsL_law) { frames := 0, cells := 0, slots := 0, locals := 0 } (va_Pc [.double x] (HS L g)) (va_Ql (fun (r9 : Int64) (u9 : St) => r9 = lI (x.toNat : Int) ∧ u9 = g) (fun u t => HS L u t) (Af L)) 0 0 (Af L) := by
  refine ct_mk (by decide +kernel) (Nat.le_of_ble_eq_true rfl) ?_
  intro pp ee ss mm bel mth cx C hr hlk
  show V pp l ee { frames := 0, cells := 0, slots := 0, locals := 0 } ss mm ([.double x]).toArray bel mth cx 7 L (HH L g) 0 0 _ 0 [(0, .double x)] []
  refine v_dload_n (pc := 0) C 0 rfl rfl dX6_bitsOf_0 ?_
  refine v_dconst0 (pc := 1) C dX6_bitsOf_1 ?_
  refine v_dcmp (pc := 2) (z := (if x = 0 then 0 else 1)) C (by rcases hx with h | h; (subst h; decide +kernel); (rw [(fl_gt h).2, if_neg (fl_gt h).1]; decide)) dX6_bitsOf_2 ?_
  refine v_if_gt (pc := 3) C 8 ⟨by split <;> decide, by split <;> decide⟩ (by decide) dX6_bitsOf_3 (fun h3 => ?_) (fun h3 => ?_)
  · skip
    have hF : flF x c q := hx.resolve_left (fun h => by rw [if_pos h] at h3; exact absurd h3 (by decide))
    obtain ⟨hv, hc1, hc2, hq1, hq2⟩ := id hF
    refine v_dload_n (pc := 8) C 0 rfl rfl dX6_bitsOf_8 ?_
    refine v_dstore_n (pc := 9) C [(2, .double x), (0, .double x)] rfl (by decide) rfl dX6_bitsOf_9 ?_
    refine v_sipush (pc := 10) C rfl dX6_bitsOf_10 ?_
    refine v_istore (pc := 13) C [(4, .int (iI 1023)), (2, .double x), (0, .double x)] (by decide) rfl dX6_bitsOf_13 ?_
    have lb15 : ∀ (n9 : Nat) (y : UInt64) (e : Int), (FP.Core.val64 y = .fin false c (q + (1023 - e))) → (e ≤ 1023 ∧ q + (1023 - e) ≤ -52) → (e).toNat < n9 → V pp l ee { frames := 0, cells := 0, slots := 0, locals := 0 } ss mm ([.double x]).toArray bel mth cx 7 L (HH L g) 0 0 (MQ bel (va_Ql (fun (r9 : Int64) (u9 : St) => r9 = lI (x.toNat : Int) ∧ u9 = g) (fun u t => HS L u t) (Af L)) ([.double x]).toArray ss 0 0 (Af L)) 15 [(0, .double x), (2, .double y), (4, .int (iI e))] [] := by
      intro n9
      induction n9 with
      | zero => intro y e hy he hm9; exact absurd hm9 (Nat.not_lt_zero _)
      | succ n9 ih9 =>
        intro y e hy he hm9
        have hz := fl_z hy hc1 hc2 (by omega) (by omega)
        have ih15 := ih9
        refine v_dload_n (pc := 15) C 1 rfl rfl dX6_bitsOf_15 ?_
        refine v_dconst1 (pc := 16) C dX6_bitsOf_16 ?_
        refine v_dcmp (pc := 17) (z := (Op.cmpValue (FP.dcmp y FP.dconst1) .g).toInt) C ((iI_of _).symm) dX6_bitsOf_17 ?_
        refine v_if_ge (pc := 18) C 39 (iI_rg _) (by decide) dX6_bitsOf_18 (fun h18 => ?_) (fun h18 => ?_)
        · skip
          have hy2 : FP.Core.val64 y = .fin false c (-52) := by (have : q + (1023 - e) = -52 := (by apply Decidable.byContradiction; intro hn; have := hz.1 (by omega); omega); rw [this] at hy; exact hy)
          have hee : e = q + 1075 := by (rw [hy] at hy2; injection hy2 with a1 a2 a3; omega)
          refine v_dload_n (pc := 39) C 1 rfl rfl dX6_bitsOf_39 ?_
          refine v_dconst1 (pc := 40) C dX6_bitsOf_40 ?_
          refine v_dsub (pc := 41) C ((fl_frac hy2 hc1 hc2).1) dX6_bitsOf_41 ?_
          refine v_ldc2d (pc := 42) C u_35_4 dX6_bitsOf_42 ?_
          refine v_dmul (pc := 45) C ((fl_frac hy2 hc1 hc2).2.1) dX6_bitsOf_45 ?_
          refine v_d2lz (pc := 46) (z := ((c - 4503599627370496 : Nat) : Int)) C ((fl_frac hy2 hF.2.1 hF.2.2.1).2.2) dX6_bitsOf_46 ?_
          refine v_lstore (pc := 47) C [(5, .long (lI ((c - 4503599627370496 : Nat) : Int))), (0, .double x), (2, .double y), (4, .int (iI e))] (by decide) rfl dX6_bitsOf_47 ?_
          refine v_iload (pc := 49) C 3 rfl dX6_bitsOf_49 ?_
          refine v_i2l (pc := 51) C ⟨by (first | assumption | omega), by (first | assumption | omega)⟩ dX6_bitsOf_51 ?_
          refine v_bipush (pc := 52) C rfl dX6_bitsOf_52 ?_
          refine v_lshl (pc := 54) (v := e * 4503599627370496) C (fl_sh (by omega)) dX6_bitsOf_54 ?_
          refine v_lload (pc := 55) C 0 rfl dX6_bitsOf_55 ?_
          refine v_lor (pc := 57) (v := e * 4503599627370496 + ((c - 4503599627370496 : Nat) : Int)) C (by have hq := fl_or (e := e.toNat) (t := c - 4503599627370496) (by omega) (by omega); rw [show ((e.toNat : Nat) : Int) = e by omega] at hq; exact hq) dX6_bitsOf_57 ?_
          exact v_lret (pc := 58) C hr hlk (⟨congrArg lI (by have hb := fl_bits hv hc1 hc2 (by omega) (by omega); omega), rfl⟩) dX6_bitsOf_58
        · skip
          have hlt : q + (1023 - e) < -52 := by (apply Decidable.byContradiction; intro hn; have := hz.2 (by omega); omega)
          refine v_iload (pc := 21) C 2 rfl dX6_bitsOf_21 ?_
          refine v_iconst (pc := 23) C dX6_bitsOf_23 ?_
          refine v_icmp_le (pc := 24) C 39 ⟨by (first | assumption | omega), by (first | assumption | omega)⟩ ⟨by (first | assumption | omega), by (first | assumption | omega)⟩ (by decide) dX6_bitsOf_24 (fun h24 => ?_) (fun h24 => ?_)
          · skip
            exfalso; omega
          · skip
            refine v_dload_n (pc := 27) C 1 rfl rfl dX6_bitsOf_27 ?_
            refine v_ldc2d (pc := 28) C u_35_3 dX6_bitsOf_28 ?_
            refine v_dmul (pc := 31) C (fl_n64 (fl_nn (fl_dbl hy hc1 hc2 (by omega) (by omega)) hc1 hc2 (by omega) (by omega))) dX6_bitsOf_31 ?_
            refine v_dstore_n (pc := 32) C [(2, .double (FP.dmul y 4611686018427387904)), (0, .double x), (4, .int (iI e))] rfl (by decide) rfl dX6_bitsOf_32 ?_
            refine v_iinc (pc := 33) C 2 [(4, .int (iI (e + (-1)))), (2, .double (FP.dmul y 4611686018427387904)), (0, .double x)] rfl (by decide) rfl dX6_bitsOf_33 ?_
            refine v_goto (pc := 36) C 15 (by decide) dX6_bitsOf_36 ?_
            refine v_lsub [2, 1, 0] rfl ?_
            exact ih15 (FP.dmul y 4611686018427387904) (e + (-1)) (by rw [show q + (1023 - (e + (-1))) = q + (1023 - e) + 1 by omega]; exact fl_dbl hy hc1 hc2 (by omega) (by omega)) (by omega) (by omega)
    refine v_lsub [2, 1, 0] rfl ?_
    exact lb15 _ x 1023 (by rw [hv]; congr 1; omega) (by omega) (Nat.lt_succ_self _)
  · skip
    have hx0 : x = 0 := Decidable.byContradiction (fun h => h3 (by rw [if_neg h]; decide))
    refine v_lconst (pc := 6) (z := 0) C rfl dX6_bitsOf_6 ?_
    exact v_lret (pc := 7) C hr hlk (⟨congrArg lI (by rw [hx0]; rfl), rfl⟩) dX6_bitsOf_7
set_option maxHeartbeats 4000000 in
set_option maxRecDepth 100000 in
theorem ct_X1_shareAnswered (l : Launch) (L : Lay) (g : St) (k : Int) (hk : 0 ≤ k ∧ k < 9) (hw : wf g k 1) (hs4 : 0 ≤ smN g k 4 ∧ smN g k 4 ≤ 300000000) (hs5 : 0 ≤ smN g k 5 ∧ smN g k 5 ≤ 300000000) (hs6 : 0 ≤ smN g k 6 ∧ smN g k 6 ≤ 300000000) : Met l yX1_shareAnswered (.code yX1_shareAnswered cX1_shareAnswered 3 (some .double) :: wsL_law) { frames := 3, cells := 0, slots := 0, locals := 68 } (va_Pc [.ref (adr L 1 k 0)] (HS L g)) (va_Qd (fun (r9 : UInt64) (u9 : St) => r9 = (shK g k) ∧ u9 = g) (fun u t => HS L u t) (Af L)) 0 0 (Af L) := by
  refine ct_mk (by decide +kernel) (Nat.le_of_ble_eq_true rfl) ?_
  intro pp ee ss mm bel mth cx C hr hlk
  show V pp l ee { frames := 3, cells := 0, slots := 0, locals := 68 } ss mm ([.ref (adr L 1 k 0)]).toArray bel mth cx 3 L (HH L g) 0 0 _ 0 [(0, .ref (adr L 1 k 0))] []
  refine v_aload_n (pc := 0) C 0 rfl rfl dX1_shareAnswered_0 ?_
  refine v_iconst (pc := 1) C dX1_shareAnswered_1 ?_
  refine v_calliV (pc := 2) C cw_RX1_153 (rcv_1 ⟨by (first | assumption | omega), by (first | assumption | omega)⟩) (ct_X1_sumOfPlayers l L g k 1 4 (by first | assumption | omega) (by first | assumption | omega) (by first | assumption | omega) (by first | assumption | omega)) ⟨Nat.le_of_ble_eq_true rfl, Nat.le_of_ble_eq_true rfl⟩ rfl (Nat.le_of_ble_eq_true rfl) ⟨Nat.le_of_ble_eq_true rfl, Nat.le_of_ble_eq_true rfl⟩ rfl dX1_shareAnswered_2 (fun r9 u9 hP_1 => ?_)
  obtain ⟨hP_1, hP_1b⟩ := hP_1
  rw [hP_1, hP_1b]
  clear hP_1 hP_1b r9 u9
  refine v_istore_n (pc := 5) C [(1, .int (iI (smN g k 4))), (0, .ref (adr L 1 k 0))] rfl (by decide) rfl dX1_shareAnswered_5 ?_
  refine v_iload_n (pc := 6) C 0 rfl rfl dX1_shareAnswered_6 ?_
  refine v_aload_n (pc := 7) C 1 rfl rfl dX1_shareAnswered_7 ?_
  refine v_iconst (pc := 8) C dX1_shareAnswered_8 ?_
  refine v_calliV (pc := 9) C cw_RX1_153 (rcv_1 ⟨by (first | assumption | omega), by (first | assumption | omega)⟩) (ct_X1_sumOfPlayers l L g k 1 5 (by first | assumption | omega) (by first | assumption | omega) (by first | assumption | omega) (by first | assumption | omega)) ⟨Nat.le_of_ble_eq_true rfl, Nat.le_of_ble_eq_true rfl⟩ rfl (Nat.le_of_ble_eq_true rfl) ⟨Nat.le_of_ble_eq_true rfl, Nat.le_of_ble_eq_true rfl⟩ rfl dX1_shareAnswered_9 (fun r9 u9 hP_2 => ?_)
  obtain ⟨hP_2, hP_2b⟩ := hP_2
  rw [hP_2, hP_2b]
  clear hP_2 hP_2b r9 u9
  refine v_iadd (pc := 12) C dX1_shareAnswered_12 ?_
  refine v_aload_n (pc := 13) C 1 rfl rfl dX1_shareAnswered_13 ?_
  refine v_bipush (pc := 14) C rfl dX1_shareAnswered_14 ?_
  refine v_calliV (pc := 16) C cw_RX1_153 (rcv_1 ⟨by (first | assumption | omega), by (first | assumption | omega)⟩) (ct_X1_sumOfPlayers l L g k 1 6 (by first | assumption | omega) (by first | assumption | omega) (by first | assumption | omega) (by first | assumption | omega)) ⟨Nat.le_of_ble_eq_true rfl, Nat.le_of_ble_eq_true rfl⟩ rfl (Nat.le_of_ble_eq_true rfl) ⟨Nat.le_of_ble_eq_true rfl, Nat.le_of_ble_eq_true rfl⟩ rfl dX1_shareAnswered_16 (fun r9 u9 hP_3 => ?_)
  obtain ⟨hP_3, hP_3b⟩ := hP_3
  rw [hP_3, hP_3b]
  clear hP_3 hP_3b r9 u9
  refine v_iadd (pc := 19) C dX1_shareAnswered_19 ?_
  refine v_istore_n (pc := 20) C [(2, .int (iI (((smN g k 4) + (smN g k 5)) + (smN g k 6)))), (1, .int (iI (smN g k 4))), (0, .ref (adr L 1 k 0))] rfl (by decide) rfl dX1_shareAnswered_20 ?_
  refine v_iload_n (pc := 21) C 0 rfl rfl dX1_shareAnswered_21 ?_
  refine v_if_le (pc := 22) C 33 ⟨by (first | assumption | omega), by (first | assumption | omega)⟩ (by decide) dX1_shareAnswered_22 (fun h22 => ?_) (fun h22 => ?_)
  · skip
    refine v_dconst1 (pc := 33) C dX1_shareAnswered_33 ?_
    exact v_dret (pc := 34) C hr hlk (⟨by unfold shK shD; first | rw [if_pos (by omega)] | rw [if_neg (by omega)], rfl⟩) dX1_shareAnswered_34
  · skip
    refine v_iload_n (pc := 25) C 1 rfl rfl dX1_shareAnswered_25 ?_
    refine v_i2d (pc := 26) C dX1_shareAnswered_26 ?_
    refine v_iload_n (pc := 27) C 0 rfl rfl dX1_shareAnswered_27 ?_
    refine v_i2d (pc := 28) C dX1_shareAnswered_28 ?_
    refine v_ddiv (pc := 29) C (by have hn := sh_nn (a := smN g k 4) (b := smN g k 4 + smN g k 5 + smN g k 6) (by omega) (by omega) (by omega); unfold shD at hn; rw [if_pos (by omega)] at hn; exact hn) dX1_shareAnswered_29 ?_
    refine v_goto (pc := 30) C 34 (by decide) dX1_shareAnswered_30 ?_
    exact v_dret (pc := 34) C hr hlk (⟨by unfold shK shD; first | rw [if_pos (by omega)] | rw [if_neg (by omega)], rfl⟩) dX1_shareAnswered_34
