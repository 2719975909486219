/-! the law's cases -/
def sx (xs : Nat → Int32) (a : Int) : Int := (xs a.toNat).toInt
theorem sx_rg (xs : Nat → Int32) (a : Int) : rg (sx xs a) := iI_rg _
theorem and31 (a : Int32) : ∃ z : Int, (0 ≤ z ∧ z ≤ 31) ∧ a &&& iI 31 = iI z := by
  refine ⟨(a &&& iI 31).toInt, ?_, (iI_of _).symm⟩
  have h1 : (a &&& iI 31).toBitVec.toNat ≤ 31 := by
    rw [Int32.toBitVec_and, BitVec.toNat_and]
    exact Nat.and_le_right
  have h2 : (a &&& iI 31).toInt = ((a &&& iI 31).toBitVec.toNat : Int) := by
    rw [← Int32.toInt_toBitVec]; exact BitVec.toInt_eq_toNat_of_lt (by omega)
  omega
section VL
variable {p : Program} {l : Launch} {e : Env} {R : Room} {s : State} {m : MethodId} {args : Array Value} {below : List Frame} {meth : Method} {c : Code} {cells slots : Nat} {Q : State → Prop} {cc : ByteArray} {nL : Nat} {own : String} {L : Lay} {g : St} {pc : Nat} {lv : List (Nat × Value)} {st : List Value}
theorem v_widen {k n : Nat} (h1 : cells ≤ k) (h2 : slots ≤ n) (kk : V p l e R s m args below meth c nL L (HH L g) k n Q pc lv st) : V p l e R s m args below meth c nL L (HH L g) cells slots Q pc lv st := fun H locs ls hI hS hl => W.widen h1 h2 (kk H locs ls hI hS hl)
theorem v_sld (C : Cx p s m args c cc nL own L) {b Ls : Nat} {xs : Nat → Int32} (hX : va_X b Ls xs s s.heap) (hb : b < s.heap.size) (hbA : ¬ Af L b) {a : Int} (h : 0 ≤ a ∧ a < Ls) (hLs : Ls < 2147483648) (hdg : decode cc pc = .ok (.iaload, 1)) (kk : V p l e R s m args below meth c nL L (HH L g) cells slots Q (pc + 1) lv (.int (iI (sx xs a)) :: st)) : V p l e R s m args below meth c nL L (HH L g) cells slots Q pc lv (.int (iI a) :: .ref b :: st) := by
  intro H locs ls hI hS hl
  refine va_sld C.1 C.2.1 hX hb hbA hS (iI_ix h.1 h.2 hLs) hdg ?_
  have k := kk H locs ls hI hS hl
  unfold sx at k
  rw [iI_of] at k
  rw [iI_nat ⟨by omega, by omega⟩]; exact k
theorem v_slen (C : Cx p s m args c cc nL own L) {b Ls : Nat} {xs : Nat → Int32} (hX : va_X b Ls xs s s.heap) (hb : b < s.heap.size) (hbA : ¬ Af L b) (hdg : decode cc pc = .ok (.arraylength, 1)) (kk : V p l e R s m args below meth c nL L (HH L g) cells slots Q (pc + 1) lv (.int (iI (Ls : Int)) :: st)) : V p l e R s m args below meth c nL L (HH L g) cells slots Q pc lv (.ref b :: st) := by
  intro H locs ls hI hS hl
  refine va_slen C.1 C.2.1 hX hb hbA hS hdg ?_
  rw [← Int32.ofInt_eq_ofNat]; exact kk H locs ls hI hS hl
theorem v_iand (C : Cx p s m args c cc nL own L) {x y : Int32} (hdg : decode cc pc = .ok (.iand, 1)) (kk : V p l e R s m args below meth c nL L (HH L g) cells slots Q (pc + 1) lv (.int (x &&& y) :: st)) : V p l e R s m args below meth c nL L (HH L g) cells slots Q pc lv (.int y :: .int x :: st) := fun H locs ls hI hS hl => lv_iand C.1 C.2.1 hdg (kk H locs ls hI hS hl)
theorem v_lcmpE (C : Cx p s m args c cc nL own L) {x : Int64} (hdg : decode cc pc = .ok (.lcmp, 1)) (kk : V p l e R s m args below meth c nL L (HH L g) cells slots Q (pc + 1) lv (.int (iI 0) :: st)) : V p l e R s m args below meth c nL L (HH L g) cells slots Q pc lv (.long x :: .long x :: st) := by
  intro H locs ls hI hS hl
  have e1 : lg_cmp x x = iI 0 := by simp [lg_cmp]; rfl
  exact W.lcmp C.1 C.2.1 hdg (by rw [e1]; exact kk H locs ls hI hS hl)
end VL
theorem INV_erI {g : St} {n : Int} (h : INV g n) : rg (erI (g 13 0 0) (g 12 0 0 1)) := by
  have a := h.2.2.1.1
  have b := frst_in (pEr (g 13 0 0)) (g 12 0 0 1).toNat 0 (by decide)
  unfold rg erI
  split <;> omega
theorem INV_txl {g : St} {n : Int} (h : INV g n) : rg (g 12 0 0 1) := by
  have a := h.2.2.1.1
  unfold rg; omega
theorem INV_bst (g : St) : rg (bst g 0) := by
  have a := bst_in g 0
  unfold rg; omega
theorem INV_shn {g : St} {n : Int} (h : INV g n) (hn : n ≤ 40000) : FP.Core.val64 (shK g 0) ≠ .nan := by
  have c := INV_ctr h hn
  have w := INV_wf h
  have a := smN_in (w := 4) w c (by decide)
  have b := smN_in (w := 5) w c (by decide)
  have d := smN_in (w := 6) w c (by decide)
  exact shD_nn (by omega) (by omega) (by omega)
theorem INV_rf {g : St} {n : Int} (h : INV g n) (hn : n ≤ 40000) : 0 ≤ g 1 0 0 1 ∧ g 1 0 0 1 ≤ 100000000 := by
  have a := (h.2.1 0 (by decide) (by decide)).2.2.2
  omega
theorem cw_RL_82 : CW RL 82 RX7 yX7_call cX7_call 3 (some .int) 2 := ⟨u_8_6, u_8_7, u_8_8, u_1_5, u_8_9, by decide +kernel⟩
theorem cw_RL_83 : CW RL 83 RX7 yX7_thrown cX7_thrown 1 (some .int) 0 := ⟨u_10_2, u_10_3, u_10_4, u_1_5, u_10_5, by decide +kernel⟩
theorem cw_RL_88 : CW RL 88 RX7 yX7_walk cX7_walk 3 (some .int) 2 := ⟨u_10_17, u_10_18, u_10_19, u_1_5, u_10_20, by decide +kernel⟩
theorem cw_RL_92 : CW RL 92 RX7 yX7_throwBall cX7_throwBall 5 (some .int) 3 := ⟨u_11_13, u_11_14, u_11_15, u_1_5, u_11_16, by decide +kernel⟩
theorem cw_RL_95 : CW RL 95 RX7 yX7_set cX7_set 6 (some .int) 2 := ⟨u_12_14, u_12_15, u_12_16, u_1_5, u_12_17, by decide +kernel⟩
theorem cw_RL_99 : CW RL 99 RX7 yX7_pass cX7_pass 2 (some .int) 1 := ⟨u_15_4, u_15_5, u_15_6, u_1_5, u_15_7, by decide +kernel⟩
theorem cw_RL_102 : CW RL 102 RX7 yX7_append cX7_append 2 (some .int) 1 := ⟨u_17_12, u_17_13, u_17_14, u_1_5, u_17_15, by decide +kernel⟩
theorem cw_RL_103 : CW RL 103 RX6 yX6_clearBuffer cX6_clearBuffer 2 (some .int) 0 := ⟨u_17_17, u_17_18, u_17_19, u_1_2, u_17_20, by decide +kernel⟩
theorem cw_RL_106 : CW RL 106 RX7 yX7_clearBuffer cX7_clearBuffer 2 (some .int) 0 := ⟨u_17_21, u_17_22, u_17_23, u_1_5, u_18_0, by decide +kernel⟩
theorem cw_RL_107 : CW RL 107 RX6 yX6_firstError cX6_firstError 1 (some .int) 0 := ⟨u_18_1, u_18_2, u_18_3, u_1_2, u_18_4, by decide +kernel⟩
theorem cw_RL_110 : CW RL 110 RX7 yX7_firstError cX7_firstError 2 (some .int) 0 := ⟨u_19_0, u_19_1, u_19_2, u_1_5, u_19_3, by decide +kernel⟩
theorem cw_RL_114 : CW RL 114 RX7 yX7_run cX7_run 3 (some .int) 0 := ⟨u_22_5, u_22_6, u_22_7, u_1_5, u_22_8, by decide +kernel⟩
theorem cw_RL_117 : CW RL 117 RX7 yX7_keep cX7_keep 3 (some .int) 1 := ⟨u_22_22, u_22_23, u_23_0, u_1_5, u_23_1, by decide +kernel⟩
theorem cw_RL_120 : CW RL 120 RX7 yX7_goBack cX7_goBack 3 (some .int) 1 := ⟨u_23_9, u_23_10, u_23_11, u_1_5, u_23_12, by decide +kernel⟩
theorem cw_RL_123 : CW RL 123 RX7 yX7_undo cX7_undo 2 (some .int) 0 := ⟨u_24_1, u_24_2, u_24_3, u_1_5, u_24_4, by decide +kernel⟩
theorem cw_RL_126 : CW RL 126 RX7 yX7_playerOf cX7_playerOf 3 (some .int) 2 := ⟨u_24_16, u_24_17, u_24_18, u_1_5, u_24_19, by decide +kernel⟩
theorem cw_RL_129 : CW RL 129 RX7 yX7_echoOf cX7_echoOf 3 (some .int) 2 := ⟨u_25_11, u_25_12, u_25_13, u_1_5, u_25_14, by decide +kernel⟩
theorem cw_RL_132 : CW RL 132 RX7 yX7_count cX7_count 2 (some .int) 1 := ⟨u_27_0, u_27_1, u_27_2, u_1_5, u_27_3, by decide +kernel⟩
theorem cw_RL_135 : CW RL 135 RX7 yX7_setting cX7_setting 2 (some .int) 1 := ⟨u_27_19, u_27_20, u_27_21, u_1_5, u_27_22, by decide +kernel⟩
theorem cw_RL_138 : CW RL 138 RX7 yX7_ballIn cX7_ballIn 3 (some .int) 2 := ⟨u_28_17, u_28_18, u_28_19, u_1_5, u_28_20, by decide +kernel⟩
theorem cw_RL_141 : CW RL 141 RX7 yX7_echoIn cX7_echoIn 3 (some .int) 2 := ⟨u_29_15, u_29_16, u_29_17, u_1_5, u_29_18, by decide +kernel⟩
theorem cw_RL_144 : CW RL 144 RX7 yX7_wouldClash cX7_wouldClash 3 (some .int) 2 := ⟨u_30_14, u_30_15, u_30_16, u_1_5, u_30_17, by decide +kernel⟩
theorem cw_RL_147 : CW RL 147 RX7 yX7_callIn cX7_callIn 2 (some .int) 1 := ⟨u_31_14, u_31_15, u_31_16, u_1_5, u_31_17, by decide +kernel⟩
theorem cw_RL_148 : CW RL 148 RX6 yX6_quietIn cX6_quietIn 1 (some .int) 0 := ⟨u_32_2, u_32_3, u_32_4, u_1_2, u_32_5, by decide +kernel⟩
theorem cw_RL_151 : CW RL 151 RX7 yX7_quietIn cX7_quietIn 1 (some .int) 0 := ⟨u_32_10, u_32_11, u_32_12, u_1_5, u_32_13, by decide +kernel⟩
theorem cw_RL_152 : CW RL 152 RX6 yX6_best cX6_best 1 (some .int) 0 := ⟨u_32_18, u_32_19, u_32_20, u_1_2, u_32_21, by decide +kernel⟩
theorem cw_RL_155 : CW RL 155 RX7 yX7_best cX7_best 1 (some .int) 0 := ⟨u_33_6, u_33_7, u_33_8, u_1_5, u_33_9, by decide +kernel⟩
theorem cw_RL_156 : CW RL 156 RX6 yX6_answeredShare cX6_answeredShare 1 (some .double) 0 := ⟨u_33_14, u_33_15, u_33_16, u_1_2, u_33_17, by decide +kernel⟩
theorem cw_RL_160 : CW RL 160 RX7 yX7_answeredShare cX7_answeredShare 1 (some .double) 0 := ⟨u_33_22, u_33_23, u_34_0, u_1_5, u_34_1, by decide +kernel⟩
theorem cw_RL_161 : CW RL 161 RX6 yX6_digest cX6_digest 5 (some .long) 0 := ⟨u_34_6, u_34_7, u_34_8, u_1_2, u_34_9, by decide +kernel⟩
theorem cw_RL_165 : CW RL 165 RX7 yX7_digest cX7_digest 3 (some .long) 0 := ⟨u_35_5, u_35_6, u_35_7, u_1_5, u_35_8, by decide +kernel⟩
set_option maxHeartbeats 4000000 in
set_option maxRecDepth 100000 in
theorem lc_call {p : Program} {l : Launch} {e : Env} {s : State} {m : MethodId} {args : Array Value} {below : List Frame} {meth : Method} {c : Code} {L : Lay} {b Lx : Nat} {xs : Nat → Int32} {Q : State → Prop} {g : St} {n i : Int} {c0 s0 : Nat} (hfl : l.flags = flags0) (C : Cx p s m args c cL_law 9 RL L) (hX : va_X b Lx xs s s.heap) (hb : b < s.heap.size) (hbA : ¬ Af L b) (hi : 0 ≤ i ∧ i + 3 < Lx) (hLx : Lx ≤ 2048) (hI : INV g n) (hn : n ≤ 40000) (hc : c0 + 3 ≤ 622385) (hs : s0 + 18 ≤ 7228948) (kend : ∀ v : St, INV v (n + 60) → V p l e room_1 s m args below meth c 9 L (HH L v) (c0 + 3) (s0 + 18) Q 1375 [(0, .ref b), (1, .ref (adr L 0 0 0)), (2, .ref (adr L 14 0 0)), (3, .ref (adr L 20 0 0)), (4, .int (iI i))] []) : V p l e room_1 s m args below meth c 9 L (HH L g) (c0) (s0) Q 148 [(0, .ref b), (1, .ref (adr L 0 0 0)), (2, .ref (adr L 14 0 0)), (3, .ref (adr L 20 0 0)), (4, .int (iI i))] [] := by
  refine v_aload_n (pc := 148) C 1 rfl rfl dL_law_148 ?_
  refine v_aload_n (pc := 149) C 0 rfl rfl dL_law_149 ?_
  refine v_iload (pc := 150) C 4 rfl dL_law_150 ?_
  refine v_iconst (pc := 152) C dL_law_152 ?_
  refine v_iadd (pc := 153) C dL_law_153 ?_
  refine v_sld (pc := 154) C hX hb hbA (a := i + 1) ⟨by omega, by omega⟩ (by omega) dL_law_154 ?_
  refine v_aload_n (pc := 155) C 0 rfl rfl dL_law_155 ?_
  refine v_iload (pc := 156) C 4 rfl dL_law_156 ?_
  refine v_iconst (pc := 158) C dL_law_158 ?_
  refine v_iadd (pc := 159) C dL_law_159 ?_
  refine v_sld (pc := 160) C hX hb hbA (a := i + 2) ⟨by omega, by omega⟩ (by omega) dL_law_160 ?_
  refine v_aload_n (pc := 161) C 3 rfl rfl dL_law_161 ?_
  refine v_calliH (pc := 162) C cwh_call (ct_L_call l L hfl g n (sx xs (i + 1)) (sx xs (i + 2)) hI (sx_rg xs _) (sx_rg xs _)) ⟨Nat.le_of_ble_eq_true rfl, Nat.le_of_ble_eq_true rfl⟩ rfl (Nat.le_of_ble_eq_true rfl) ⟨by show c0 + 2 ≤ 622385; omega, by show s0 + 12 ≤ 7228948; omega⟩ rfl dL_law_162 (fun r9 u hP => ?_)
  have hf := fu_call hI hP
  obtain ⟨mw, m3, m6, mb, mc, ms, mk⟩ := MI_of hI hn hf
  refine v_istore (pc := 165) C [(5, .int r9), (0, .ref b), (1, .ref (adr L 0 0 0)), (2, .ref (adr L 14 0 0)), (3, .ref (adr L 20 0 0)), (4, .int (iI i))] (by decide) rfl dL_law_165 ?_
  refine v_aload_n (pc := 167) C 3 rfl rfl dL_law_167 ?_
  refine v_aload_n (pc := 168) C 1 rfl rfl dL_law_168 ?_
  refine v_iload (pc := 169) C 5 rfl dL_law_169 ?_
  refine v_iconst (pc := 171) C dL_law_171 ?_
  refine v_iadd (pc := 172) C dL_law_172 ?_
  refine v_sld (pc := 173) C hX hb hbA (a := i + 1) ⟨by omega, by omega⟩ (by omega) dL_law_173 ?_
  refine v_aload_n (pc := 174) C 1 rfl rfl dL_law_174 ?_
  refine v_iload (pc := 175) C 5 rfl dL_law_175 ?_
  refine v_iconst (pc := 177) C dL_law_177 ?_
  refine v_iadd (pc := 178) C dL_law_178 ?_
  refine v_sld (pc := 179) C hX hb hbA (a := i + 2) ⟨by omega, by omega⟩ (by omega) dL_law_179 ?_
  refine v_calliV (pc := 180) C cw_RL_82 rcv_14 (ct_X7_call l L u (sx xs (i + 1)) (sx xs (i + 2)) mw m3 (n6_room mw m6) (sx_rg xs _) (sx_rg xs _)) ⟨Nat.le_of_ble_eq_true rfl, Nat.le_of_ble_eq_true rfl⟩ rfl (Nat.le_of_ble_eq_true rfl) ⟨by show c0 + 2 + 0 ≤ 622385; omega, by show s0 + 12 + 0 ≤ 7228948; omega⟩ rfl dL_law_180 (fun rb v hM => ?_)
  obtain ⟨k, hk, hrk, hv0, hv20, hIv⟩ := st_call hI hP hM
  subst hk
  refine v_istore (pc := 183) C [(6, .int rb), (5, .int (iI k)), (0, .ref b), (1, .ref (adr L 0 0 0)), (2, .ref (adr L 14 0 0)), (3, .ref (adr L 20 0 0)), (4, .int (iI i))] (by decide) rfl dL_law_183 ?_
  refine v_aload_n (pc := 185) C 4 rfl rfl dL_law_185 ?_
  refine v_calliV (pc := 186) C cw_RL_83 rcv_14 (ct_X7_thrown l L v) ⟨Nat.le_of_ble_eq_true rfl, Nat.le_of_ble_eq_true rfl⟩ rfl (Nat.le_of_ble_eq_true rfl) ⟨by show c0 + 2 + 0 + 0 ≤ 622385; omega, by show s0 + 12 + 0 + 0 ≤ 7228948; omega⟩ rfl dL_law_186 (fun r8 v8 h8 => ?_)
  obtain ⟨h8, h9⟩ := h8
  rw [h8, h9, hv0]
  refine v_iload (pc := 189) C 1 rfl dL_law_189 ?_
  refine v_icmp_eq (pc := 191) C 196 hrk hrk (by decide) dL_law_191 (fun _ => ?_) (fun h => absurd rfl h)
  refine v_iload (pc := 196) C 1 rfl dL_law_196 ?_
  refine v_if_ne (pc := 198) C 213 hrk (by decide) dL_law_198 (fun hk0 => ?_) (fun hk0 => ?_)
  · skip
    refine v_goto (pc := 213) C 1375 (by decide) dL_law_213 ?_
    refine v_widen (k := c0 + 3) (n := s0 + 18) (by omega) (by omega) ?_
    exact v_lsub [2, 3, 4, 5, 6] rfl (kend v hIv)
  · skip
    refine v_aload_n (pc := 201) C 5 rfl rfl dL_law_201 ?_
    refine v_iconst (pc := 202) C dL_law_202 ?_
    refine al_20 (pc := 203) C (by decide) dL_law_203 rb.toInt (hv20 (Decidable.not_not.mp hk0)) ?_
    refine v_iload (pc := 204) C 0 rfl dL_law_204 ?_
    refine v_i2lw (pc := 206) C dL_law_206 ?_
    refine v_lcmpE (pc := 207) C dL_law_207 ?_
    refine v_if_eq (pc := 208) C 213 (by decide) (by decide) dL_law_208 (fun _ => ?_) (fun h => absurd rfl h)
    refine v_goto (pc := 213) C 1375 (by decide) dL_law_213 ?_
    refine v_widen (k := c0 + 3) (n := s0 + 18) (by omega) (by omega) ?_
    exact v_lsub [2, 3, 4, 5, 6] rfl (kend v hIv)
set_option maxHeartbeats 4000000 in
set_option maxRecDepth 100000 in
theorem lc_walk {p : Program} {l : Launch} {e : Env} {s : State} {m : MethodId} {args : Array Value} {below : List Frame} {meth : Method} {c : Code} {L : Lay} {b Lx : Nat} {xs : Nat → Int32} {Q : State → Prop} {g : St} {n i : Int} {c0 s0 : Nat} (hfl : l.flags = flags0) (C : Cx p s m args c cL_law 9 RL L) (hX : va_X b Lx xs s s.heap) (hb : b < s.heap.size) (hbA : ¬ Af L b) (hi : 0 ≤ i ∧ i + 3 < Lx) (hLx : Lx ≤ 2048) (hI : INV g n) (hn : n ≤ 40000) (hc : c0 + 3 ≤ 622385) (hs : s0 + 18 ≤ 7228948) (kend : ∀ v : St, INV v (n + 60) → V p l e room_1 s m args below meth c 9 L (HH L v) (c0 + 3) (s0 + 18) Q 1375 [(0, .ref b), (1, .ref (adr L 0 0 0)), (2, .ref (adr L 14 0 0)), (3, .ref (adr L 20 0 0)), (4, .int (iI i))] []) : V p l e room_1 s m args below meth c 9 L (HH L g) (c0) (s0) Q 216 [(0, .ref b), (1, .ref (adr L 0 0 0)), (2, .ref (adr L 14 0 0)), (3, .ref (adr L 20 0 0)), (4, .int (iI i))] [] := by
  refine v_aload_n (pc := 216) C 1 rfl rfl dL_law_216 ?_
  refine v_aload_n (pc := 217) C 0 rfl rfl dL_law_217 ?_
  refine v_iload (pc := 218) C 4 rfl dL_law_218 ?_
  refine v_iconst (pc := 220) C dL_law_220 ?_
  refine v_iadd (pc := 221) C dL_law_221 ?_
  refine v_sld (pc := 222) C hX hb hbA (a := i + 1) ⟨by omega, by omega⟩ (by omega) dL_law_222 ?_
  refine v_aload_n (pc := 223) C 0 rfl rfl dL_law_223 ?_
  refine v_iload (pc := 224) C 4 rfl dL_law_224 ?_
  refine v_iconst (pc := 226) C dL_law_226 ?_
  refine v_iadd (pc := 227) C dL_law_227 ?_
  refine v_sld (pc := 228) C hX hb hbA (a := i + 2) ⟨by omega, by omega⟩ (by omega) dL_law_228 ?_
  refine v_aload_n (pc := 229) C 3 rfl rfl dL_law_229 ?_
  refine v_calliH (pc := 230) C cwh_walk (ct_L_walk l L hfl g n (sx xs (i + 1)) (sx xs (i + 2)) hI (sx_rg xs _) (sx_rg xs _)) ⟨Nat.le_of_ble_eq_true rfl, Nat.le_of_ble_eq_true rfl⟩ rfl (Nat.le_of_ble_eq_true rfl) ⟨by show c0 + 2 ≤ 622385; omega, by show s0 + 12 ≤ 7228948; omega⟩ rfl dL_law_230 (fun r9 u hP => ?_)
  have hf := fu_walk hI hP
  obtain ⟨mw, m3, m6, mb, mc, ms, mk⟩ := MI_of hI hn hf
  refine v_istore (pc := 233) C [(5, .int r9), (0, .ref b), (1, .ref (adr L 0 0 0)), (2, .ref (adr L 14 0 0)), (3, .ref (adr L 20 0 0)), (4, .int (iI i))] (by decide) rfl dL_law_233 ?_
  refine v_aload_n (pc := 235) C 3 rfl rfl dL_law_235 ?_
  refine v_aload_n (pc := 236) C 1 rfl rfl dL_law_236 ?_
  refine v_iload (pc := 237) C 5 rfl dL_law_237 ?_
  refine v_iconst (pc := 239) C dL_law_239 ?_
  refine v_iadd (pc := 240) C dL_law_240 ?_
  refine v_sld (pc := 241) C hX hb hbA (a := i + 1) ⟨by omega, by omega⟩ (by omega) dL_law_241 ?_
  refine v_aload_n (pc := 242) C 1 rfl rfl dL_law_242 ?_
  refine v_iload (pc := 243) C 5 rfl dL_law_243 ?_
  refine v_iconst (pc := 245) C dL_law_245 ?_
  refine v_iadd (pc := 246) C dL_law_246 ?_
  refine v_sld (pc := 247) C hX hb hbA (a := i + 2) ⟨by omega, by omega⟩ (by omega) dL_law_247 ?_
  refine v_calliV (pc := 248) C cw_RL_88 rcv_14 (ct_X7_walk l L u (sx xs (i + 1)) (sx xs (i + 2)) mw m3 (sx_rg xs _) (sx_rg xs _)) ⟨Nat.le_of_ble_eq_true rfl, Nat.le_of_ble_eq_true rfl⟩ rfl (Nat.le_of_ble_eq_true rfl) ⟨by show c0 + 2 + 0 ≤ 622385; omega, by show s0 + 12 + 0 ≤ 7228948; omega⟩ rfl dL_law_248 (fun rb v hM => ?_)
  obtain ⟨k, hk, hrk, hv0, hv20, hIv⟩ := st_walk hI hP hM
  subst hk
  refine v_istore (pc := 251) C [(6, .int rb), (5, .int (iI k)), (0, .ref b), (1, .ref (adr L 0 0 0)), (2, .ref (adr L 14 0 0)), (3, .ref (adr L 20 0 0)), (4, .int (iI i))] (by decide) rfl dL_law_251 ?_
  refine v_aload_n (pc := 253) C 4 rfl rfl dL_law_253 ?_
  refine v_calliV (pc := 254) C cw_RL_83 rcv_14 (ct_X7_thrown l L v) ⟨Nat.le_of_ble_eq_true rfl, Nat.le_of_ble_eq_true rfl⟩ rfl (Nat.le_of_ble_eq_true rfl) ⟨by show c0 + 2 + 0 + 0 ≤ 622385; omega, by show s0 + 12 + 0 + 0 ≤ 7228948; omega⟩ rfl dL_law_254 (fun r8 v8 h8 => ?_)
  obtain ⟨h8, h9⟩ := h8
  rw [h8, h9, hv0]
  refine v_iload (pc := 257) C 1 rfl dL_law_257 ?_
  refine v_icmp_eq (pc := 259) C 264 hrk hrk (by decide) dL_law_259 (fun _ => ?_) (fun h => absurd rfl h)
  refine v_iload (pc := 264) C 1 rfl dL_law_264 ?_
  refine v_if_ne (pc := 266) C 281 hrk (by decide) dL_law_266 (fun hk0 => ?_) (fun hk0 => ?_)
  · skip
    refine v_goto (pc := 281) C 1375 (by decide) dL_law_281 ?_
    refine v_widen (k := c0 + 3) (n := s0 + 18) (by omega) (by omega) ?_
    exact v_lsub [2, 3, 4, 5, 6] rfl (kend v hIv)
  · skip
    refine v_aload_n (pc := 269) C 5 rfl rfl dL_law_269 ?_
    refine v_iconst (pc := 270) C dL_law_270 ?_
    refine al_20 (pc := 271) C (by decide) dL_law_271 rb.toInt (hv20 (Decidable.not_not.mp hk0)) ?_
    refine v_iload (pc := 272) C 0 rfl dL_law_272 ?_
    refine v_i2lw (pc := 274) C dL_law_274 ?_
    refine v_lcmpE (pc := 275) C dL_law_275 ?_
    refine v_if_eq (pc := 276) C 281 (by decide) (by decide) dL_law_276 (fun _ => ?_) (fun h => absurd rfl h)
    refine v_goto (pc := 281) C 1375 (by decide) dL_law_281 ?_
    refine v_widen (k := c0 + 3) (n := s0 + 18) (by omega) (by omega) ?_
    exact v_lsub [2, 3, 4, 5, 6] rfl (kend v hIv)
set_option maxHeartbeats 4000000 in
set_option maxRecDepth 100000 in
theorem lc_throwBall {p : Program} {l : Launch} {e : Env} {s : State} {m : MethodId} {args : Array Value} {below : List Frame} {meth : Method} {c : Code} {L : Lay} {b Lx : Nat} {xs : Nat → Int32} {Q : State → Prop} {g : St} {n i : Int} {c0 s0 : Nat} (hfl : l.flags = flags0) (C : Cx p s m args c cL_law 9 RL L) (hX : va_X b Lx xs s s.heap) (hb : b < s.heap.size) (hbA : ¬ Af L b) (hi : 0 ≤ i ∧ i + 3 < Lx) (hLx : Lx ≤ 2048) (hI : INV g n) (hn : n ≤ 40000) (hc : c0 + 3 ≤ 622385) (hs : s0 + 18 ≤ 7228948) (kend : ∀ v : St, INV v (n + 60) → V p l e room_1 s m args below meth c 9 L (HH L v) (c0 + 3) (s0 + 18) Q 1375 [(0, .ref b), (1, .ref (adr L 0 0 0)), (2, .ref (adr L 14 0 0)), (3, .ref (adr L 20 0 0)), (4, .int (iI i))] []) : V p l e room_1 s m args below meth c 9 L (HH L g) (c0) (s0) Q 284 [(0, .ref b), (1, .ref (adr L 0 0 0)), (2, .ref (adr L 14 0 0)), (3, .ref (adr L 20 0 0)), (4, .int (iI i))] [] := by
  obtain ⟨q, hqq⟩ : ∃ q : Int, q = if sx xs (i + 3) = 0 then 0 else 1 := ⟨_, rfl⟩
  have hq : q = 0 ∨ q = 1 := by rw [hqq]; split <;> simp
  refine v_aload_n (pc := 284) C 1 rfl rfl dL_law_284 ?_
  refine v_aload_n (pc := 285) C 0 rfl rfl dL_law_285 ?_
  refine v_iload (pc := 286) C 4 rfl dL_law_286 ?_
  refine v_iconst (pc := 288) C dL_law_288 ?_
  refine v_iadd (pc := 289) C dL_law_289 ?_
  refine v_sld (pc := 290) C hX hb hbA (a := i + 1) ⟨by omega, by omega⟩ (by omega) dL_law_290 ?_
  refine v_aload_n (pc := 291) C 0 rfl rfl dL_law_291 ?_
  refine v_iload (pc := 292) C 4 rfl dL_law_292 ?_
  refine v_iconst (pc := 294) C dL_law_294 ?_
  refine v_iadd (pc := 295) C dL_law_295 ?_
  refine v_sld (pc := 296) C hX hb hbA (a := i + 2) ⟨by omega, by omega⟩ (by omega) dL_law_296 ?_
  refine v_aload_n (pc := 297) C 0 rfl rfl dL_law_297 ?_
  refine v_iload (pc := 298) C 4 rfl dL_law_298 ?_
  refine v_iconst (pc := 300) C dL_law_300 ?_
  refine v_iadd (pc := 301) C dL_law_301 ?_
  refine v_sld (pc := 302) C hX hb hbA (a := i + 3) ⟨by omega, by omega⟩ (by omega) dL_law_302 ?_
  refine v_if_eq (pc := 303) C 310 (sx_rg xs _) (by decide) dL_law_303 (fun hq3 => ?_) (fun hq3 => ?_)
  · skip
    refine v_iconst (pc := 310) C dL_law_310 ?_
    refine v_topi (b := q) C (by rw [hqq, if_pos hq3]) ?_
    refine v_aload_n (pc := 311) C 3 rfl rfl dL_law_311 ?_
    refine v_calliH (pc := 312) C cwh_throwBall (ct_L_throwBall l L hfl g n (sx xs (i + 1)) (sx xs (i + 2)) q hI (sx_rg xs _) (sx_rg xs _) hq) ⟨Nat.le_of_ble_eq_true rfl, Nat.le_of_ble_eq_true rfl⟩ rfl (Nat.le_of_ble_eq_true rfl) ⟨by show c0 + 2 ≤ 622385; omega, by show s0 + 12 ≤ 7228948; omega⟩ rfl dL_law_312 (fun r9 u hP => ?_)
    have hf := fu_throwBall hI hP
    obtain ⟨mw, m3, m6, mb, mc, ms, mk⟩ := MI_of hI hn hf
    refine v_istore (pc := 315) C [(5, .int r9), (0, .ref b), (1, .ref (adr L 0 0 0)), (2, .ref (adr L 14 0 0)), (3, .ref (adr L 20 0 0)), (4, .int (iI i))] (by decide) rfl dL_law_315 ?_
    refine v_aload_n (pc := 317) C 3 rfl rfl dL_law_317 ?_
    refine v_aload_n (pc := 318) C 1 rfl rfl dL_law_318 ?_
    refine v_iload (pc := 319) C 5 rfl dL_law_319 ?_
    refine v_iconst (pc := 321) C dL_law_321 ?_
    refine v_iadd (pc := 322) C dL_law_322 ?_
    refine v_sld (pc := 323) C hX hb hbA (a := i + 1) ⟨by omega, by omega⟩ (by omega) dL_law_323 ?_
    refine v_aload_n (pc := 324) C 1 rfl rfl dL_law_324 ?_
    refine v_iload (pc := 325) C 5 rfl dL_law_325 ?_
    refine v_iconst (pc := 327) C dL_law_327 ?_
    refine v_iadd (pc := 328) C dL_law_328 ?_
    refine v_sld (pc := 329) C hX hb hbA (a := i + 2) ⟨by omega, by omega⟩ (by omega) dL_law_329 ?_
    refine v_aload_n (pc := 330) C 1 rfl rfl dL_law_330 ?_
    refine v_iload (pc := 331) C 5 rfl dL_law_331 ?_
    refine v_iconst (pc := 333) C dL_law_333 ?_
    refine v_iadd (pc := 334) C dL_law_334 ?_
    refine v_sld (pc := 335) C hX hb hbA (a := i + 3) ⟨by omega, by omega⟩ (by omega) dL_law_335 ?_
    refine v_if_eq (pc := 336) C 343 (sx_rg xs _) (by decide) dL_law_336 (fun hq4 => ?_) (fun hq4 => ?_)
    · skip
      refine v_iconst (pc := 343) C dL_law_343 ?_
      refine v_topi (b := q) C (by rw [hqq, if_pos hq4]) ?_
      refine v_calliV (pc := 344) C cw_RL_92 rcv_14 (ct_X7_throwBall l L u (sx xs (i + 1)) (sx xs (i + 2)) q mw m3 hq (sx_rg xs _) (sx_rg xs _)) ⟨Nat.le_of_ble_eq_true rfl, Nat.le_of_ble_eq_true rfl⟩ rfl (Nat.le_of_ble_eq_true rfl) ⟨by show c0 + 2 + 0 ≤ 622385; omega, by show s0 + 12 + 0 ≤ 7228948; omega⟩ rfl dL_law_344 (fun rb v hM => ?_)
      obtain ⟨k, hk, hrk, hv0, hv20, hIv⟩ := st_throwBall hI hq hP hM
      subst hk
      refine v_istore (pc := 347) C [(6, .int rb), (5, .int (iI k)), (0, .ref b), (1, .ref (adr L 0 0 0)), (2, .ref (adr L 14 0 0)), (3, .ref (adr L 20 0 0)), (4, .int (iI i))] (by decide) rfl dL_law_347 ?_
      refine v_aload_n (pc := 349) C 4 rfl rfl dL_law_349 ?_
      refine v_calliV (pc := 350) C cw_RL_83 rcv_14 (ct_X7_thrown l L v) ⟨Nat.le_of_ble_eq_true rfl, Nat.le_of_ble_eq_true rfl⟩ rfl (Nat.le_of_ble_eq_true rfl) ⟨by show c0 + 2 + 0 + 0 ≤ 622385; omega, by show s0 + 12 + 0 + 0 ≤ 7228948; omega⟩ rfl dL_law_350 (fun r8 v8 h8 => ?_)
      obtain ⟨h8, h9⟩ := h8
      rw [h8, h9, hv0]
      refine v_iload (pc := 353) C 1 rfl dL_law_353 ?_
      refine v_icmp_eq (pc := 355) C 360 hrk hrk (by decide) dL_law_355 (fun _ => ?_) (fun h => absurd rfl h)
      refine v_iload (pc := 360) C 1 rfl dL_law_360 ?_
      refine v_if_ne (pc := 362) C 377 hrk (by decide) dL_law_362 (fun hk0 => ?_) (fun hk0 => ?_)
      · skip
        refine v_goto (pc := 377) C 1375 (by decide) dL_law_377 ?_
        refine v_widen (k := c0 + 3) (n := s0 + 18) (by omega) (by omega) ?_
        exact v_lsub [2, 3, 4, 5, 6] rfl (kend v hIv)
      · skip
        refine v_aload_n (pc := 365) C 5 rfl rfl dL_law_365 ?_
        refine v_iconst (pc := 366) C dL_law_366 ?_
        refine al_20 (pc := 367) C (by decide) dL_law_367 rb.toInt (hv20 (Decidable.not_not.mp hk0)) ?_
        refine v_iload (pc := 368) C 0 rfl dL_law_368 ?_
        refine v_i2lw (pc := 370) C dL_law_370 ?_
        refine v_lcmpE (pc := 371) C dL_law_371 ?_
        refine v_if_eq (pc := 372) C 377 (by decide) (by decide) dL_law_372 (fun _ => ?_) (fun h => absurd rfl h)
        refine v_goto (pc := 377) C 1375 (by decide) dL_law_377 ?_
        refine v_widen (k := c0 + 3) (n := s0 + 18) (by omega) (by omega) ?_
        exact v_lsub [2, 3, 4, 5, 6] rfl (kend v hIv)
    · skip
      exact absurd hq3 hq4
  · skip
    refine v_iconst (pc := 306) C dL_law_306 ?_
    refine v_goto (pc := 307) C 311 (by decide) dL_law_307 ?_
    refine v_topi (b := q) C (by rw [hqq, if_neg hq3]) ?_
    refine v_aload_n (pc := 311) C 3 rfl rfl dL_law_311 ?_
    refine v_calliH (pc := 312) C cwh_throwBall (ct_L_throwBall l L hfl g n (sx xs (i + 1)) (sx xs (i + 2)) q hI (sx_rg xs _) (sx_rg xs _) hq) ⟨Nat.le_of_ble_eq_true rfl, Nat.le_of_ble_eq_true rfl⟩ rfl (Nat.le_of_ble_eq_true rfl) ⟨by show c0 + 2 ≤ 622385; omega, by show s0 + 12 ≤ 7228948; omega⟩ rfl dL_law_312 (fun r9 u hP => ?_)
    have hf := fu_throwBall hI hP
    obtain ⟨mw, m3, m6, mb, mc, ms, mk⟩ := MI_of hI hn hf
    refine v_istore (pc := 315) C [(5, .int r9), (0, .ref b), (1, .ref (adr L 0 0 0)), (2, .ref (adr L 14 0 0)), (3, .ref (adr L 20 0 0)), (4, .int (iI i))] (by decide) rfl dL_law_315 ?_
    refine v_aload_n (pc := 317) C 3 rfl rfl dL_law_317 ?_
    refine v_aload_n (pc := 318) C 1 rfl rfl dL_law_318 ?_
    refine v_iload (pc := 319) C 5 rfl dL_law_319 ?_
    refine v_iconst (pc := 321) C dL_law_321 ?_
    refine v_iadd (pc := 322) C dL_law_322 ?_
    refine v_sld (pc := 323) C hX hb hbA (a := i + 1) ⟨by omega, by omega⟩ (by omega) dL_law_323 ?_
    refine v_aload_n (pc := 324) C 1 rfl rfl dL_law_324 ?_
    refine v_iload (pc := 325) C 5 rfl dL_law_325 ?_
    refine v_iconst (pc := 327) C dL_law_327 ?_
    refine v_iadd (pc := 328) C dL_law_328 ?_
    refine v_sld (pc := 329) C hX hb hbA (a := i + 2) ⟨by omega, by omega⟩ (by omega) dL_law_329 ?_
    refine v_aload_n (pc := 330) C 1 rfl rfl dL_law_330 ?_
    refine v_iload (pc := 331) C 5 rfl dL_law_331 ?_
    refine v_iconst (pc := 333) C dL_law_333 ?_
    refine v_iadd (pc := 334) C dL_law_334 ?_
    refine v_sld (pc := 335) C hX hb hbA (a := i + 3) ⟨by omega, by omega⟩ (by omega) dL_law_335 ?_
    refine v_if_eq (pc := 336) C 343 (sx_rg xs _) (by decide) dL_law_336 (fun hq4 => ?_) (fun hq4 => ?_)
    · skip
      exact absurd hq4 hq3
    · skip
      refine v_iconst (pc := 339) C dL_law_339 ?_
      refine v_goto (pc := 340) C 344 (by decide) dL_law_340 ?_
      refine v_topi (b := q) C (by rw [hqq, if_neg hq4]) ?_
      refine v_calliV (pc := 344) C cw_RL_92 rcv_14 (ct_X7_throwBall l L u (sx xs (i + 1)) (sx xs (i + 2)) q mw m3 hq (sx_rg xs _) (sx_rg xs _)) ⟨Nat.le_of_ble_eq_true rfl, Nat.le_of_ble_eq_true rfl⟩ rfl (Nat.le_of_ble_eq_true rfl) ⟨by show c0 + 2 + 0 ≤ 622385; omega, by show s0 + 12 + 0 ≤ 7228948; omega⟩ rfl dL_law_344 (fun rb v hM => ?_)
      obtain ⟨k, hk, hrk, hv0, hv20, hIv⟩ := st_throwBall hI hq hP hM
      subst hk
      refine v_istore (pc := 347) C [(6, .int rb), (5, .int (iI k)), (0, .ref b), (1, .ref (adr L 0 0 0)), (2, .ref (adr L 14 0 0)), (3, .ref (adr L 20 0 0)), (4, .int (iI i))] (by decide) rfl dL_law_347 ?_
      refine v_aload_n (pc := 349) C 4 rfl rfl dL_law_349 ?_
      refine v_calliV (pc := 350) C cw_RL_83 rcv_14 (ct_X7_thrown l L v) ⟨Nat.le_of_ble_eq_true rfl, Nat.le_of_ble_eq_true rfl⟩ rfl (Nat.le_of_ble_eq_true rfl) ⟨by show c0 + 2 + 0 + 0 ≤ 622385; omega, by show s0 + 12 + 0 + 0 ≤ 7228948; omega⟩ rfl dL_law_350 (fun r8 v8 h8 => ?_)
      obtain ⟨h8, h9⟩ := h8
      rw [h8, h9, hv0]
      refine v_iload (pc := 353) C 1 rfl dL_law_353 ?_
      refine v_icmp_eq (pc := 355) C 360 hrk hrk (by decide) dL_law_355 (fun _ => ?_) (fun h => absurd rfl h)
      refine v_iload (pc := 360) C 1 rfl dL_law_360 ?_
      refine v_if_ne (pc := 362) C 377 hrk (by decide) dL_law_362 (fun hk0 => ?_) (fun hk0 => ?_)
      · skip
        refine v_goto (pc := 377) C 1375 (by decide) dL_law_377 ?_
        refine v_widen (k := c0 + 3) (n := s0 + 18) (by omega) (by omega) ?_
        exact v_lsub [2, 3, 4, 5, 6] rfl (kend v hIv)
      · skip
        refine v_aload_n (pc := 365) C 5 rfl rfl dL_law_365 ?_
        refine v_iconst (pc := 366) C dL_law_366 ?_
        refine al_20 (pc := 367) C (by decide) dL_law_367 rb.toInt (hv20 (Decidable.not_not.mp hk0)) ?_
        refine v_iload (pc := 368) C 0 rfl dL_law_368 ?_
        refine v_i2lw (pc := 370) C dL_law_370 ?_
        refine v_lcmpE (pc := 371) C dL_law_371 ?_
        refine v_if_eq (pc := 372) C 377 (by decide) (by decide) dL_law_372 (fun _ => ?_) (fun h => absurd rfl h)
        refine v_goto (pc := 377) C 1375 (by decide) dL_law_377 ?_
        refine v_widen (k := c0 + 3) (n := s0 + 18) (by omega) (by omega) ?_
        exact v_lsub [2, 3, 4, 5, 6] rfl (kend v hIv)
set_option maxHeartbeats 4000000 in
set_option maxRecDepth 100000 in
theorem lc_set {p : Program} {l : Launch} {e : Env} {s : State} {m : MethodId} {args : Array Value} {below : List Frame} {meth : Method} {c : Code} {L : Lay} {b Lx : Nat} {xs : Nat → Int32} {Q : State → Prop} {g : St} {n i : Int} {c0 s0 : Nat} (hfl : l.flags = flags0) (C : Cx p s m args c cL_law 9 RL L) (hX : va_X b Lx xs s s.heap) (hb : b < s.heap.size) (hbA : ¬ Af L b) (hi : 0 ≤ i ∧ i + 3 < Lx) (hLx : Lx ≤ 2048) (hI : INV g n) (hn : n ≤ 40000) (hc : c0 + 3 ≤ 622385) (hs : s0 + 18 ≤ 7228948) (kend : ∀ v : St, INV v (n + 60) → V p l e room_1 s m args below meth c 9 L (HH L v) (c0 + 3) (s0 + 18) Q 1375 [(0, .ref b), (1, .ref (adr L 0 0 0)), (2, .ref (adr L 14 0 0)), (3, .ref (adr L 20 0 0)), (4, .int (iI i))] []) : V p l e room_1 s m args below meth c 9 L (HH L g) (c0) (s0) Q 380 [(0, .ref b), (1, .ref (adr L 0 0 0)), (2, .ref (adr L 14 0 0)), (3, .ref (adr L 20 0 0)), (4, .int (iI i))] [] := by
  refine v_aload_n (pc := 380) C 1 rfl rfl dL_law_380 ?_
  refine v_aload_n (pc := 381) C 0 rfl rfl dL_law_381 ?_
  refine v_iload (pc := 382) C 4 rfl dL_law_382 ?_
  refine v_iconst (pc := 384) C dL_law_384 ?_
  refine v_iadd (pc := 385) C dL_law_385 ?_
  refine v_sld (pc := 386) C hX hb hbA (a := i + 1) ⟨by omega, by omega⟩ (by omega) dL_law_386 ?_
  refine v_aload_n (pc := 387) C 0 rfl rfl dL_law_387 ?_
  refine v_iload (pc := 388) C 4 rfl dL_law_388 ?_
  refine v_iconst (pc := 390) C dL_law_390 ?_
  refine v_iadd (pc := 391) C dL_law_391 ?_
  refine v_sld (pc := 392) C hX hb hbA (a := i + 2) ⟨by omega, by omega⟩ (by omega) dL_law_392 ?_
  refine v_aload_n (pc := 393) C 3 rfl rfl dL_law_393 ?_
  refine v_calliH (pc := 394) C cwh_set (ct_L_set l L hfl g n (sx xs (i + 1)) (sx xs (i + 2)) hI (sx_rg xs _) (sx_rg xs _)) ⟨Nat.le_of_ble_eq_true rfl, Nat.le_of_ble_eq_true rfl⟩ rfl (Nat.le_of_ble_eq_true rfl) ⟨by show c0 + 3 ≤ 622385; omega, by show s0 + 18 ≤ 7228948; omega⟩ rfl dL_law_394 (fun r9 u hP => ?_)
  have hf := fu_set hI hP
  obtain ⟨mw, m3, m6, mb, mc, ms, mk⟩ := MI_of hI hn hf
  refine v_istore (pc := 397) C [(5, .int r9), (0, .ref b), (1, .ref (adr L 0 0 0)), (2, .ref (adr L 14 0 0)), (3, .ref (adr L 20 0 0)), (4, .int (iI i))] (by decide) rfl dL_law_397 ?_
  refine v_aload_n (pc := 399) C 3 rfl rfl dL_law_399 ?_
  refine v_aload_n (pc := 400) C 1 rfl rfl dL_law_400 ?_
  refine v_iload (pc := 401) C 5 rfl dL_law_401 ?_
  refine v_iconst (pc := 403) C dL_law_403 ?_
  refine v_iadd (pc := 404) C dL_law_404 ?_
  refine v_sld (pc := 405) C hX hb hbA (a := i + 1) ⟨by omega, by omega⟩ (by omega) dL_law_405 ?_
  refine v_aload_n (pc := 406) C 1 rfl rfl dL_law_406 ?_
  refine v_iload (pc := 407) C 5 rfl dL_law_407 ?_
  refine v_iconst (pc := 409) C dL_law_409 ?_
  refine v_iadd (pc := 410) C dL_law_410 ?_
  refine v_sld (pc := 411) C hX hb hbA (a := i + 2) ⟨by omega, by omega⟩ (by omega) dL_law_411 ?_
  refine v_calliV (pc := 412) C cw_RL_95 rcv_14 (ct_X7_set l L u (sx xs (i + 1)) (sx xs (i + 2)) mw m3 (sx_rg xs _) (sx_rg xs _)) ⟨Nat.le_of_ble_eq_true rfl, Nat.le_of_ble_eq_true rfl⟩ rfl (Nat.le_of_ble_eq_true rfl) ⟨by show c0 + 3 + 0 ≤ 622385; omega, by show s0 + 18 + 0 ≤ 7228948; omega⟩ rfl dL_law_412 (fun rb v hM => ?_)
  obtain ⟨k, hk, hrk, hv0, hv20, hIv⟩ := st_set hI hP hM
  subst hk
  refine v_istore (pc := 415) C [(6, .int rb), (5, .int (iI k)), (0, .ref b), (1, .ref (adr L 0 0 0)), (2, .ref (adr L 14 0 0)), (3, .ref (adr L 20 0 0)), (4, .int (iI i))] (by decide) rfl dL_law_415 ?_
  refine v_aload_n (pc := 417) C 4 rfl rfl dL_law_417 ?_
  refine v_calliV (pc := 418) C cw_RL_83 rcv_14 (ct_X7_thrown l L v) ⟨Nat.le_of_ble_eq_true rfl, Nat.le_of_ble_eq_true rfl⟩ rfl (Nat.le_of_ble_eq_true rfl) ⟨by show c0 + 3 + 0 + 0 ≤ 622385; omega, by show s0 + 18 + 0 + 0 ≤ 7228948; omega⟩ rfl dL_law_418 (fun r8 v8 h8 => ?_)
  obtain ⟨h8, h9⟩ := h8
  rw [h8, h9, hv0]
  refine v_iload (pc := 421) C 1 rfl dL_law_421 ?_
  refine v_icmp_eq (pc := 423) C 428 hrk hrk (by decide) dL_law_423 (fun _ => ?_) (fun h => absurd rfl h)
  refine v_iload (pc := 428) C 1 rfl dL_law_428 ?_
  refine v_if_ne (pc := 430) C 445 hrk (by decide) dL_law_430 (fun hk0 => ?_) (fun hk0 => ?_)
  · skip
    refine v_goto (pc := 445) C 1375 (by decide) dL_law_445 ?_
    refine v_widen (k := c0 + 3) (n := s0 + 18) (by omega) (by omega) ?_
    exact v_lsub [2, 3, 4, 5, 6] rfl (kend v hIv)
  · skip
    refine v_aload_n (pc := 433) C 5 rfl rfl dL_law_433 ?_
    refine v_iconst (pc := 434) C dL_law_434 ?_
    refine al_20 (pc := 435) C (by decide) dL_law_435 rb.toInt (hv20 (Decidable.not_not.mp hk0)) ?_
    refine v_iload (pc := 436) C 0 rfl dL_law_436 ?_
    refine v_i2lw (pc := 438) C dL_law_438 ?_
    refine v_lcmpE (pc := 439) C dL_law_439 ?_
    refine v_if_eq (pc := 440) C 445 (by decide) (by decide) dL_law_440 (fun _ => ?_) (fun h => absurd rfl h)
    refine v_goto (pc := 445) C 1375 (by decide) dL_law_445 ?_
    refine v_widen (k := c0 + 3) (n := s0 + 18) (by omega) (by omega) ?_
    exact v_lsub [2, 3, 4, 5, 6] rfl (kend v hIv)
set_option maxHeartbeats 4000000 in
set_option maxRecDepth 100000 in
theorem lc_pass {p : Program} {l : Launch} {e : Env} {s : State} {m : MethodId} {args : Array Value} {below : List Frame} {meth : Method} {c : Code} {L : Lay} {b Lx : Nat} {xs : Nat → Int32} {Q : State → Prop} {g : St} {n i : Int} {c0 s0 : Nat} (hfl : l.flags = flags0) (C : Cx p s m args c cL_law 9 RL L) (hX : va_X b Lx xs s s.heap) (hb : b < s.heap.size) (hbA : ¬ Af L b) (hi : 0 ≤ i ∧ i + 3 < Lx) (hLx : Lx ≤ 2048) (hI : INV g n) (hn : n ≤ 40000) (hc : c0 + 3 ≤ 622385) (hs : s0 + 18 ≤ 7228948) (kend : ∀ v : St, INV v (n + 60) → V p l e room_1 s m args below meth c 9 L (HH L v) (c0 + 3) (s0 + 18) Q 1375 [(0, .ref b), (1, .ref (adr L 0 0 0)), (2, .ref (adr L 14 0 0)), (3, .ref (adr L 20 0 0)), (4, .int (iI i))] []) : V p l e room_1 s m args below meth c 9 L (HH L g) (c0) (s0) Q 448 [(0, .ref b), (1, .ref (adr L 0 0 0)), (2, .ref (adr L 14 0 0)), (3, .ref (adr L 20 0 0)), (4, .int (iI i))] [] := by
  refine v_aload_n (pc := 448) C 1 rfl rfl dL_law_448 ?_
  refine v_aload_n (pc := 449) C 0 rfl rfl dL_law_449 ?_
  refine v_iload (pc := 450) C 4 rfl dL_law_450 ?_
  refine v_iconst (pc := 452) C dL_law_452 ?_
  refine v_iadd (pc := 453) C dL_law_453 ?_
  refine v_sld (pc := 454) C hX hb hbA (a := i + 1) ⟨by omega, by omega⟩ (by omega) dL_law_454 ?_
  refine v_aload_n (pc := 455) C 3 rfl rfl dL_law_455 ?_
  refine v_calliH (pc := 456) C cwh_pass (ct_L_pass l L hfl g n (sx xs (i + 1)) hI (sx_rg xs _)) ⟨Nat.le_of_ble_eq_true rfl, Nat.le_of_ble_eq_true rfl⟩ rfl (Nat.le_of_ble_eq_true rfl) ⟨by show c0 + 2 ≤ 622385; omega, by show s0 + 12 ≤ 7228948; omega⟩ rfl dL_law_456 (fun r9 u hP => ?_)
  have hf := fu_pass hI hP
  obtain ⟨mw, m3, m6, mb, mc, ms, mk⟩ := MI_of hI hn hf
  refine v_istore (pc := 459) C [(5, .int r9), (0, .ref b), (1, .ref (adr L 0 0 0)), (2, .ref (adr L 14 0 0)), (3, .ref (adr L 20 0 0)), (4, .int (iI i))] (by decide) rfl dL_law_459 ?_
  refine v_aload_n (pc := 461) C 3 rfl rfl dL_law_461 ?_
  refine v_aload_n (pc := 462) C 1 rfl rfl dL_law_462 ?_
  refine v_iload (pc := 463) C 5 rfl dL_law_463 ?_
  refine v_iconst (pc := 465) C dL_law_465 ?_
  refine v_iadd (pc := 466) C dL_law_466 ?_
  refine v_sld (pc := 467) C hX hb hbA (a := i + 1) ⟨by omega, by omega⟩ (by omega) dL_law_467 ?_
  refine v_calliV (pc := 468) C cw_RL_99 rcv_14 (ct_X7_pass l L u (sx xs (i + 1)) mw m3 (sx_rg xs _)) ⟨Nat.le_of_ble_eq_true rfl, Nat.le_of_ble_eq_true rfl⟩ rfl (Nat.le_of_ble_eq_true rfl) ⟨by show c0 + 2 + 0 ≤ 622385; omega, by show s0 + 12 + 0 ≤ 7228948; omega⟩ rfl dL_law_468 (fun rb v hM => ?_)
  obtain ⟨k, hk, hrk, hv0, hv20, hIv⟩ := st_pass hI hP hM
  subst hk
  refine v_istore (pc := 471) C [(6, .int rb), (5, .int (iI k)), (0, .ref b), (1, .ref (adr L 0 0 0)), (2, .ref (adr L 14 0 0)), (3, .ref (adr L 20 0 0)), (4, .int (iI i))] (by decide) rfl dL_law_471 ?_
  refine v_aload_n (pc := 473) C 4 rfl rfl dL_law_473 ?_
  refine v_calliV (pc := 474) C cw_RL_83 rcv_14 (ct_X7_thrown l L v) ⟨Nat.le_of_ble_eq_true rfl, Nat.le_of_ble_eq_true rfl⟩ rfl (Nat.le_of_ble_eq_true rfl) ⟨by show c0 + 2 + 0 + 0 ≤ 622385; omega, by show s0 + 12 + 0 + 0 ≤ 7228948; omega⟩ rfl dL_law_474 (fun r8 v8 h8 => ?_)
  obtain ⟨h8, h9⟩ := h8
  rw [h8, h9, hv0]
  refine v_iload (pc := 477) C 1 rfl dL_law_477 ?_
  refine v_icmp_eq (pc := 479) C 484 hrk hrk (by decide) dL_law_479 (fun _ => ?_) (fun h => absurd rfl h)
  refine v_iload (pc := 484) C 1 rfl dL_law_484 ?_
  refine v_if_ne (pc := 486) C 501 hrk (by decide) dL_law_486 (fun hk0 => ?_) (fun hk0 => ?_)
  · skip
    refine v_goto (pc := 501) C 1375 (by decide) dL_law_501 ?_
    refine v_widen (k := c0 + 3) (n := s0 + 18) (by omega) (by omega) ?_
    exact v_lsub [2, 3, 4, 5, 6] rfl (kend v hIv)
  · skip
    refine v_aload_n (pc := 489) C 5 rfl rfl dL_law_489 ?_
    refine v_iconst (pc := 490) C dL_law_490 ?_
    refine al_20 (pc := 491) C (by decide) dL_law_491 rb.toInt (hv20 (Decidable.not_not.mp hk0)) ?_
    refine v_iload (pc := 492) C 0 rfl dL_law_492 ?_
    refine v_i2lw (pc := 494) C dL_law_494 ?_
    refine v_lcmpE (pc := 495) C dL_law_495 ?_
    refine v_if_eq (pc := 496) C 501 (by decide) (by decide) dL_law_496 (fun _ => ?_) (fun h => absurd rfl h)
    refine v_goto (pc := 501) C 1375 (by decide) dL_law_501 ?_
    refine v_widen (k := c0 + 3) (n := s0 + 18) (by omega) (by omega) ?_
    exact v_lsub [2, 3, 4, 5, 6] rfl (kend v hIv)
set_option maxHeartbeats 4000000 in
set_option maxRecDepth 100000 in
theorem lc_append {p : Program} {l : Launch} {e : Env} {s : State} {m : MethodId} {args : Array Value} {below : List Frame} {meth : Method} {c : Code} {L : Lay} {b Lx : Nat} {xs : Nat → Int32} {Q : State → Prop} {g : St} {n i : Int} {c0 s0 : Nat} (hfl : l.flags = flags0) (C : Cx p s m args c cL_law 9 RL L) (hX : va_X b Lx xs s s.heap) (hb : b < s.heap.size) (hbA : ¬ Af L b) (hi : 0 ≤ i ∧ i + 3 < Lx) (hLx : Lx ≤ 2048) (hI : INV g n) (hn : n ≤ 40000) (hc : c0 + 3 ≤ 622385) (hs : s0 + 18 ≤ 7228948) (kend : ∀ v : St, INV v (n + 60) → V p l e room_1 s m args below meth c 9 L (HH L v) (c0 + 3) (s0 + 18) Q 1375 [(0, .ref b), (1, .ref (adr L 0 0 0)), (2, .ref (adr L 14 0 0)), (3, .ref (adr L 20 0 0)), (4, .int (iI i))] []) : V p l e room_1 s m args below meth c 9 L (HH L g) (c0) (s0) Q 504 [(0, .ref b), (1, .ref (adr L 0 0 0)), (2, .ref (adr L 14 0 0)), (3, .ref (adr L 20 0 0)), (4, .int (iI i))] [] := by
  refine v_aload_n (pc := 504) C 1 rfl rfl dL_law_504 ?_
  refine v_aload_n (pc := 505) C 0 rfl rfl dL_law_505 ?_
  refine v_iload (pc := 506) C 4 rfl dL_law_506 ?_
  refine v_iconst (pc := 508) C dL_law_508 ?_
  refine v_iadd (pc := 509) C dL_law_509 ?_
  refine v_sld (pc := 510) C hX hb hbA (a := i + 1) ⟨by omega, by omega⟩ (by omega) dL_law_510 ?_
  refine v_aload_n (pc := 511) C 3 rfl rfl dL_law_511 ?_
  refine v_calliH (pc := 512) C cwh_append (ct_L_append l L hfl g n (sx xs (i + 1)) hI (sx_rg xs _)) ⟨Nat.le_of_ble_eq_true rfl, Nat.le_of_ble_eq_true rfl⟩ rfl (Nat.le_of_ble_eq_true rfl) ⟨by show c0 + 2 ≤ 622385; omega, by show s0 + 12 ≤ 7228948; omega⟩ rfl dL_law_512 (fun r9 u hP => ?_)
  have hf := fu_append hI hP
  obtain ⟨mw, m3, m6, mb, mc, ms, mk⟩ := MI_of hI hn hf
  refine v_istore (pc := 515) C [(5, .int r9), (0, .ref b), (1, .ref (adr L 0 0 0)), (2, .ref (adr L 14 0 0)), (3, .ref (adr L 20 0 0)), (4, .int (iI i))] (by decide) rfl dL_law_515 ?_
  refine v_aload_n (pc := 517) C 3 rfl rfl dL_law_517 ?_
  refine v_aload_n (pc := 518) C 1 rfl rfl dL_law_518 ?_
  refine v_iload (pc := 519) C 5 rfl dL_law_519 ?_
  refine v_iconst (pc := 521) C dL_law_521 ?_
  refine v_iadd (pc := 522) C dL_law_522 ?_
  refine v_sld (pc := 523) C hX hb hbA (a := i + 1) ⟨by omega, by omega⟩ (by omega) dL_law_523 ?_
  refine v_calliV (pc := 524) C cw_RL_102 rcv_14 (ct_X7_append l L u (sx xs (i + 1)) (sx_rg xs _) mb.1) ⟨Nat.le_of_ble_eq_true rfl, Nat.le_of_ble_eq_true rfl⟩ rfl (Nat.le_of_ble_eq_true rfl) ⟨by show c0 + 2 + 0 ≤ 622385; omega, by show s0 + 12 + 0 ≤ 7228948; omega⟩ rfl dL_law_524 (fun rb v hM => ?_)
  obtain ⟨k, hk, hrk, hv0, hv20, hIv⟩ := st_append hI hP hM
  subst hk
  refine v_istore (pc := 527) C [(6, .int rb), (5, .int (iI k)), (0, .ref b), (1, .ref (adr L 0 0 0)), (2, .ref (adr L 14 0 0)), (3, .ref (adr L 20 0 0)), (4, .int (iI i))] (by decide) rfl dL_law_527 ?_
  refine v_aload_n (pc := 529) C 4 rfl rfl dL_law_529 ?_
  refine v_calliV (pc := 530) C cw_RL_83 rcv_14 (ct_X7_thrown l L v) ⟨Nat.le_of_ble_eq_true rfl, Nat.le_of_ble_eq_true rfl⟩ rfl (Nat.le_of_ble_eq_true rfl) ⟨by show c0 + 2 + 0 + 0 ≤ 622385; omega, by show s0 + 12 + 0 + 0 ≤ 7228948; omega⟩ rfl dL_law_530 (fun r8 v8 h8 => ?_)
  obtain ⟨h8, h9⟩ := h8
  rw [h8, h9, hv0]
  refine v_iload (pc := 533) C 1 rfl dL_law_533 ?_
  refine v_icmp_eq (pc := 535) C 540 hrk hrk (by decide) dL_law_535 (fun _ => ?_) (fun h => absurd rfl h)
  refine v_iload (pc := 540) C 1 rfl dL_law_540 ?_
  refine v_if_ne (pc := 542) C 557 hrk (by decide) dL_law_542 (fun hk0 => ?_) (fun hk0 => ?_)
  · skip
    refine v_goto (pc := 557) C 1375 (by decide) dL_law_557 ?_
    refine v_widen (k := c0 + 3) (n := s0 + 18) (by omega) (by omega) ?_
    exact v_lsub [2, 3, 4, 5, 6] rfl (kend v hIv)
  · skip
    refine v_aload_n (pc := 545) C 5 rfl rfl dL_law_545 ?_
    refine v_iconst (pc := 546) C dL_law_546 ?_
    refine al_20 (pc := 547) C (by decide) dL_law_547 rb.toInt (hv20 (Decidable.not_not.mp hk0)) ?_
    refine v_iload (pc := 548) C 0 rfl dL_law_548 ?_
    refine v_i2lw (pc := 550) C dL_law_550 ?_
    refine v_lcmpE (pc := 551) C dL_law_551 ?_
    refine v_if_eq (pc := 552) C 557 (by decide) (by decide) dL_law_552 (fun _ => ?_) (fun h => absurd rfl h)
    refine v_goto (pc := 557) C 1375 (by decide) dL_law_557 ?_
    refine v_widen (k := c0 + 3) (n := s0 + 18) (by omega) (by omega) ?_
    exact v_lsub [2, 3, 4, 5, 6] rfl (kend v hIv)
set_option maxHeartbeats 4000000 in
set_option maxRecDepth 100000 in
theorem lc_clearBuffer {p : Program} {l : Launch} {e : Env} {s : State} {m : MethodId} {args : Array Value} {below : List Frame} {meth : Method} {c : Code} {L : Lay} {b Lx : Nat} {xs : Nat → Int32} {Q : State → Prop} {g : St} {n i : Int} {c0 s0 : Nat} (hfl : l.flags = flags0) (C : Cx p s m args c cL_law 9 RL L) (hX : va_X b Lx xs s s.heap) (hb : b < s.heap.size) (hbA : ¬ Af L b) (hi : 0 ≤ i ∧ i + 3 < Lx) (hLx : Lx ≤ 2048) (hI : INV g n) (hn : n ≤ 40000) (hc : c0 + 3 ≤ 622385) (hs : s0 + 18 ≤ 7228948) (kend : ∀ v : St, INV v (n + 60) → V p l e room_1 s m args below meth c 9 L (HH L v) (c0 + 3) (s0 + 18) Q 1375 [(0, .ref b), (1, .ref (adr L 0 0 0)), (2, .ref (adr L 14 0 0)), (3, .ref (adr L 20 0 0)), (4, .int (iI i))] []) : V p l e room_1 s m args below meth c 9 L (HH L g) (c0) (s0) Q 560 [(0, .ref b), (1, .ref (adr L 0 0 0)), (2, .ref (adr L 14 0 0)), (3, .ref (adr L 20 0 0)), (4, .int (iI i))] [] := by
  refine v_aload_n (pc := 560) C 1 rfl rfl dL_law_560 ?_
  refine v_calliV (pc := 561) C cw_RL_103 rcv_0 (ct_X6_clearBuffer l L g ) ⟨Nat.le_of_ble_eq_true rfl, Nat.le_of_ble_eq_true rfl⟩ rfl (Nat.le_of_ble_eq_true rfl) ⟨by show c0 + 0 ≤ 622385; omega, by show s0 + 0 ≤ 7228948; omega⟩ rfl dL_law_561 (fun r9 u9 hP => ?_)
  obtain ⟨hP, hPb⟩ := hP
  rw [hP, hPb]
  clear hP hPb r9 u9
  have hf : ∀ f : Nat, 14 ≤ f → f ≤ 19 → (up g 12 0 0 1 0) f = g f := fun f a1 b1 => up_ff (by omega)
  obtain ⟨mw, m3, m6, mb, mc, ms, mk⟩ := MI_of hI hn hf
  refine v_aload_n (pc := 564) C 2 rfl rfl dL_law_564 ?_
  refine v_calliV (pc := 565) C cw_RL_106 rcv_14 (ct_X7_clearBuffer l L (up g 12 0 0 1 0) ) ⟨Nat.le_of_ble_eq_true rfl, Nat.le_of_ble_eq_true rfl⟩ rfl (Nat.le_of_ble_eq_true rfl) ⟨by show c0 + 0 + 0 ≤ 622385; omega, by show s0 + 0 + 0 ≤ 7228948; omega⟩ rfl dL_law_565 (fun r9 v hP => ?_)
  obtain ⟨hr, hv⟩ := hP
  have o := op_clear hI (fun f _ => rfl) hv
  rw [hr, ← o.2]
  refine v_icmp_eq (pc := 568) C 1375 (INV_txl hI) (INV_txl hI) (by decide) dL_law_568 (fun _ => ?_) (fun h => absurd rfl h)
  exact v_widen (k := c0 + 3) (n := s0 + 18) (by omega) (by omega) (kend v o.1.1)
set_option maxHeartbeats 4000000 in
set_option maxRecDepth 100000 in
theorem lc_firstError {p : Program} {l : Launch} {e : Env} {s : State} {m : MethodId} {args : Array Value} {below : List Frame} {meth : Method} {c : Code} {L : Lay} {b Lx : Nat} {xs : Nat → Int32} {Q : State → Prop} {g : St} {n i : Int} {c0 s0 : Nat} (hfl : l.flags = flags0) (C : Cx p s m args c cL_law 9 RL L) (hX : va_X b Lx xs s s.heap) (hb : b < s.heap.size) (hbA : ¬ Af L b) (hi : 0 ≤ i ∧ i + 3 < Lx) (hLx : Lx ≤ 2048) (hI : INV g n) (hn : n ≤ 40000) (hc : c0 + 3 ≤ 622385) (hs : s0 + 18 ≤ 7228948) (kend : ∀ v : St, INV v (n + 60) → V p l e room_1 s m args below meth c 9 L (HH L v) (c0 + 3) (s0 + 18) Q 1375 [(0, .ref b), (1, .ref (adr L 0 0 0)), (2, .ref (adr L 14 0 0)), (3, .ref (adr L 20 0 0)), (4, .int (iI i))] []) : V p l e room_1 s m args below meth c 9 L (HH L g) (c0) (s0) Q 573 [(0, .ref b), (1, .ref (adr L 0 0 0)), (2, .ref (adr L 14 0 0)), (3, .ref (adr L 20 0 0)), (4, .int (iI i))] [] := by
  refine v_aload_n (pc := 573) C 1 rfl rfl dL_law_573 ?_
  refine v_calliV (pc := 574) C cw_RL_107 rcv_0 (ct_X6_firstError l L g hI.2.2.1) ⟨Nat.le_of_ble_eq_true rfl, Nat.le_of_ble_eq_true rfl⟩ rfl (Nat.le_of_ble_eq_true rfl) ⟨by show c0 + 0 ≤ 622385; omega, by show s0 + 0 ≤ 7228948; omega⟩ rfl dL_law_574 (fun r9 u9 hP => ?_)
  obtain ⟨hP, hPb⟩ := hP
  rw [hP, hPb]
  clear hP hPb r9 u9
  have hf : ∀ f : Nat, 14 ≤ f → f ≤ 19 → g f = g f := fun f a1 b1 => rfl
  obtain ⟨mw, m3, m6, mb, mc, ms, mk⟩ := MI_of hI hn hf
  refine v_aload_n (pc := 577) C 2 rfl rfl dL_law_577 ?_
  refine v_calliV (pc := 578) C cw_RL_110 rcv_14 (ct_X7_firstError l L g mb) ⟨Nat.le_of_ble_eq_true rfl, Nat.le_of_ble_eq_true rfl⟩ rfl (Nat.le_of_ble_eq_true rfl) ⟨by show c0 + 0 + 0 ≤ 622385; omega, by show s0 + 0 + 0 ≤ 7228948; omega⟩ rfl dL_law_578 (fun r9 v hP => ?_)
  obtain ⟨hr, hv⟩ := hP
  have o := op_fe hI (fun f _ => rfl) hv rfl
  rw [hr, ← o.2]
  refine v_icmp_eq (pc := 581) C 1375 (INV_erI hI) (INV_erI hI) (by decide) dL_law_581 (fun _ => ?_) (fun h => absurd rfl h)
  exact v_widen (k := c0 + 3) (n := s0 + 18) (by omega) (by omega) (kend v o.1.1)
set_option maxHeartbeats 4000000 in
set_option maxRecDepth 100000 in
theorem lc_run {p : Program} {l : Launch} {e : Env} {s : State} {m : MethodId} {args : Array Value} {below : List Frame} {meth : Method} {c : Code} {L : Lay} {b Lx : Nat} {xs : Nat → Int32} {Q : State → Prop} {g : St} {n i : Int} {c0 s0 : Nat} (hfl : l.flags = flags0) (C : Cx p s m args c cL_law 9 RL L) (hX : va_X b Lx xs s s.heap) (hb : b < s.heap.size) (hbA : ¬ Af L b) (hi : 0 ≤ i ∧ i + 3 < Lx) (hLx : Lx ≤ 2048) (hI : INV g n) (hn : n ≤ 40000) (hc : c0 + 3 ≤ 622385) (hs : s0 + 18 ≤ 7228948) (kend : ∀ v : St, INV v (n + 60) → V p l e room_1 s m args below meth c 9 L (HH L v) (c0 + 3) (s0 + 18) Q 1375 [(0, .ref b), (1, .ref (adr L 0 0 0)), (2, .ref (adr L 14 0 0)), (3, .ref (adr L 20 0 0)), (4, .int (iI i))] []) : V p l e room_1 s m args below meth c 9 L (HH L g) (c0) (s0) Q 586 [(0, .ref b), (1, .ref (adr L 0 0 0)), (2, .ref (adr L 14 0 0)), (3, .ref (adr L 20 0 0)), (4, .int (iI i))] [] := by
  refine v_aload_n (pc := 586) C 1 rfl rfl dL_law_586 ?_
  refine v_aload_n (pc := 587) C 3 rfl rfl dL_law_587 ?_
  refine v_calliH (pc := 588) C cwh_run (ct_L_run l L hfl g n  hI ) ⟨Nat.le_of_ble_eq_true rfl, Nat.le_of_ble_eq_true rfl⟩ rfl (Nat.le_of_ble_eq_true rfl) ⟨by show c0 + 1 ≤ 622385; omega, by show s0 + 6 ≤ 7228948; omega⟩ rfl dL_law_588 (fun r9 u hP => ?_)
  have hf := fu_run hI hP
  obtain ⟨mw, m3, m6, mb, mc, ms, mk⟩ := MI_of hI hn hf
  refine v_istore (pc := 591) C [(5, .int r9), (0, .ref b), (1, .ref (adr L 0 0 0)), (2, .ref (adr L 14 0 0)), (3, .ref (adr L 20 0 0)), (4, .int (iI i))] (by decide) rfl dL_law_591 ?_
  refine v_aload_n (pc := 593) C 3 rfl rfl dL_law_593 ?_
  refine v_calliV (pc := 594) C cw_RL_114 rcv_14 (ct_X7_run l L u  mb mw m6 m3) ⟨Nat.le_of_ble_eq_true rfl, Nat.le_of_ble_eq_true rfl⟩ rfl (Nat.le_of_ble_eq_true rfl) ⟨by show c0 + 1 + 0 ≤ 622385; omega, by show s0 + 6 + 0 ≤ 7228948; omega⟩ rfl dL_law_594 (fun rb v hM => ?_)
  obtain ⟨k, hk, hrk, hv0, hv20, hIv⟩ := st_run hI hP hM
  subst hk
  refine v_istore (pc := 597) C [(6, .int rb), (5, .int (iI k)), (0, .ref b), (1, .ref (adr L 0 0 0)), (2, .ref (adr L 14 0 0)), (3, .ref (adr L 20 0 0)), (4, .int (iI i))] (by decide) rfl dL_law_597 ?_
  refine v_aload_n (pc := 599) C 4 rfl rfl dL_law_599 ?_
  refine v_calliV (pc := 600) C cw_RL_83 rcv_14 (ct_X7_thrown l L v) ⟨Nat.le_of_ble_eq_true rfl, Nat.le_of_ble_eq_true rfl⟩ rfl (Nat.le_of_ble_eq_true rfl) ⟨by show c0 + 1 + 0 + 0 ≤ 622385; omega, by show s0 + 6 + 0 + 0 ≤ 7228948; omega⟩ rfl dL_law_600 (fun r8 v8 h8 => ?_)
  obtain ⟨h8, h9⟩ := h8
  rw [h8, h9, hv0]
  refine v_iload (pc := 603) C 1 rfl dL_law_603 ?_
  refine v_icmp_eq (pc := 605) C 610 hrk hrk (by decide) dL_law_605 (fun _ => ?_) (fun h => absurd rfl h)
  refine v_iload (pc := 610) C 1 rfl dL_law_610 ?_
  refine v_if_ne (pc := 612) C 627 hrk (by decide) dL_law_612 (fun hk0 => ?_) (fun hk0 => ?_)
  · skip
    refine v_goto (pc := 627) C 1375 (by decide) dL_law_627 ?_
    refine v_widen (k := c0 + 3) (n := s0 + 18) (by omega) (by omega) ?_
    exact v_lsub [2, 3, 4, 5, 6] rfl (kend v hIv)
  · skip
    refine v_aload_n (pc := 615) C 5 rfl rfl dL_law_615 ?_
    refine v_iconst (pc := 616) C dL_law_616 ?_
    refine al_20 (pc := 617) C (by decide) dL_law_617 rb.toInt (hv20 (Decidable.not_not.mp hk0)) ?_
    refine v_iload (pc := 618) C 0 rfl dL_law_618 ?_
    refine v_i2lw (pc := 620) C dL_law_620 ?_
    refine v_lcmpE (pc := 621) C dL_law_621 ?_
    refine v_if_eq (pc := 622) C 627 (by decide) (by decide) dL_law_622 (fun _ => ?_) (fun h => absurd rfl h)
    refine v_goto (pc := 627) C 1375 (by decide) dL_law_627 ?_
    refine v_widen (k := c0 + 3) (n := s0 + 18) (by omega) (by omega) ?_
    exact v_lsub [2, 3, 4, 5, 6] rfl (kend v hIv)
set_option maxHeartbeats 4000000 in
set_option maxRecDepth 100000 in
theorem lc_keep {p : Program} {l : Launch} {e : Env} {s : State} {m : MethodId} {args : Array Value} {below : List Frame} {meth : Method} {c : Code} {L : Lay} {b Lx : Nat} {xs : Nat → Int32} {Q : State → Prop} {g : St} {n i : Int} {c0 s0 : Nat} (hfl : l.flags = flags0) (C : Cx p s m args c cL_law 9 RL L) (hX : va_X b Lx xs s s.heap) (hb : b < s.heap.size) (hbA : ¬ Af L b) (hi : 0 ≤ i ∧ i + 3 < Lx) (hLx : Lx ≤ 2048) (hI : INV g n) (hn : n ≤ 40000) (hc : c0 + 3 ≤ 622385) (hs : s0 + 18 ≤ 7228948) (kend : ∀ v : St, INV v (n + 60) → V p l e room_1 s m args below meth c 9 L (HH L v) (c0 + 3) (s0 + 18) Q 1375 [(0, .ref b), (1, .ref (adr L 0 0 0)), (2, .ref (adr L 14 0 0)), (3, .ref (adr L 20 0 0)), (4, .int (iI i))] []) : V p l e room_1 s m args below meth c 9 L (HH L g) (c0) (s0) Q 630 [(0, .ref b), (1, .ref (adr L 0 0 0)), (2, .ref (adr L 14 0 0)), (3, .ref (adr L 20 0 0)), (4, .int (iI i))] [] := by
  refine v_aload_n (pc := 630) C 1 rfl rfl dL_law_630 ?_
  refine v_aload_n (pc := 631) C 0 rfl rfl dL_law_631 ?_
  refine v_iload (pc := 632) C 4 rfl dL_law_632 ?_
  refine v_iconst (pc := 634) C dL_law_634 ?_
  refine v_iadd (pc := 635) C dL_law_635 ?_
  refine v_sld (pc := 636) C hX hb hbA (a := i + 1) ⟨by omega, by omega⟩ (by omega) dL_law_636 ?_
  refine v_aload_n (pc := 637) C 3 rfl rfl dL_law_637 ?_
  refine v_calliH (pc := 638) C cwh_keep (ct_L_keep l L hfl g n (sx xs (i + 1)) hI (sx_rg xs _)) ⟨Nat.le_of_ble_eq_true rfl, Nat.le_of_ble_eq_true rfl⟩ rfl (Nat.le_of_ble_eq_true rfl) ⟨by show c0 + 1 ≤ 622385; omega, by show s0 + 6 ≤ 7228948; omega⟩ rfl dL_law_638 (fun r9 u hP => ?_)
  have hf := fu_keep hI hP
  obtain ⟨mw, m3, m6, mb, mc, ms, mk⟩ := MI_of hI hn hf
  refine v_istore (pc := 641) C [(5, .int r9), (0, .ref b), (1, .ref (adr L 0 0 0)), (2, .ref (adr L 14 0 0)), (3, .ref (adr L 20 0 0)), (4, .int (iI i))] (by decide) rfl dL_law_641 ?_
  refine v_aload_n (pc := 643) C 3 rfl rfl dL_law_643 ?_
  refine v_aload_n (pc := 644) C 1 rfl rfl dL_law_644 ?_
  refine v_iload (pc := 645) C 5 rfl dL_law_645 ?_
  refine v_iconst (pc := 647) C dL_law_647 ?_
  refine v_iadd (pc := 648) C dL_law_648 ?_
  refine v_sld (pc := 649) C hX hb hbA (a := i + 1) ⟨by omega, by omega⟩ (by omega) dL_law_649 ?_
  refine v_calliV (pc := 650) C cw_RL_117 rcv_14 (ct_X7_keep l L u (sx xs (i + 1)) (sx_rg xs _)) ⟨Nat.le_of_ble_eq_true rfl, Nat.le_of_ble_eq_true rfl⟩ rfl (Nat.le_of_ble_eq_true rfl) ⟨by show c0 + 1 + 0 ≤ 622385; omega, by show s0 + 6 + 0 ≤ 7228948; omega⟩ rfl dL_law_650 (fun rb v hM => ?_)
  obtain ⟨k, hk, hrk, hv0, hv20, hIv⟩ := st_keep hI hP hM
  subst hk
  refine v_istore (pc := 653) C [(6, .int rb), (5, .int (iI k)), (0, .ref b), (1, .ref (adr L 0 0 0)), (2, .ref (adr L 14 0 0)), (3, .ref (adr L 20 0 0)), (4, .int (iI i))] (by decide) rfl dL_law_653 ?_
  refine v_aload_n (pc := 655) C 4 rfl rfl dL_law_655 ?_
  refine v_calliV (pc := 656) C cw_RL_83 rcv_14 (ct_X7_thrown l L v) ⟨Nat.le_of_ble_eq_true rfl, Nat.le_of_ble_eq_true rfl⟩ rfl (Nat.le_of_ble_eq_true rfl) ⟨by show c0 + 1 + 0 + 0 ≤ 622385; omega, by show s0 + 6 + 0 + 0 ≤ 7228948; omega⟩ rfl dL_law_656 (fun r8 v8 h8 => ?_)
  obtain ⟨h8, h9⟩ := h8
  rw [h8, h9, hv0]
  refine v_iload (pc := 659) C 1 rfl dL_law_659 ?_
  refine v_icmp_eq (pc := 661) C 666 hrk hrk (by decide) dL_law_661 (fun _ => ?_) (fun h => absurd rfl h)
  refine v_iload (pc := 666) C 1 rfl dL_law_666 ?_
  refine v_if_ne (pc := 668) C 683 hrk (by decide) dL_law_668 (fun hk0 => ?_) (fun hk0 => ?_)
  · skip
    refine v_goto (pc := 683) C 1375 (by decide) dL_law_683 ?_
    refine v_widen (k := c0 + 3) (n := s0 + 18) (by omega) (by omega) ?_
    exact v_lsub [2, 3, 4, 5, 6] rfl (kend v hIv)
  · skip
    refine v_aload_n (pc := 671) C 5 rfl rfl dL_law_671 ?_
    refine v_iconst (pc := 672) C dL_law_672 ?_
    refine al_20 (pc := 673) C (by decide) dL_law_673 rb.toInt (hv20 (Decidable.not_not.mp hk0)) ?_
    refine v_iload (pc := 674) C 0 rfl dL_law_674 ?_
    refine v_i2lw (pc := 676) C dL_law_676 ?_
    refine v_lcmpE (pc := 677) C dL_law_677 ?_
    refine v_if_eq (pc := 678) C 683 (by decide) (by decide) dL_law_678 (fun _ => ?_) (fun h => absurd rfl h)
    refine v_goto (pc := 683) C 1375 (by decide) dL_law_683 ?_
    refine v_widen (k := c0 + 3) (n := s0 + 18) (by omega) (by omega) ?_
    exact v_lsub [2, 3, 4, 5, 6] rfl (kend v hIv)
set_option maxHeartbeats 4000000 in
set_option maxRecDepth 100000 in
theorem lc_goBack {p : Program} {l : Launch} {e : Env} {s : State} {m : MethodId} {args : Array Value} {below : List Frame} {meth : Method} {c : Code} {L : Lay} {b Lx : Nat} {xs : Nat → Int32} {Q : State → Prop} {g : St} {n i : Int} {c0 s0 : Nat} (hfl : l.flags = flags0) (C : Cx p s m args c cL_law 9 RL L) (hX : va_X b Lx xs s s.heap) (hb : b < s.heap.size) (hbA : ¬ Af L b) (hi : 0 ≤ i ∧ i + 3 < Lx) (hLx : Lx ≤ 2048) (hI : INV g n) (hn : n ≤ 40000) (hc : c0 + 3 ≤ 622385) (hs : s0 + 18 ≤ 7228948) (kend : ∀ v : St, INV v (n + 60) → V p l e room_1 s m args below meth c 9 L (HH L v) (c0 + 3) (s0 + 18) Q 1375 [(0, .ref b), (1, .ref (adr L 0 0 0)), (2, .ref (adr L 14 0 0)), (3, .ref (adr L 20 0 0)), (4, .int (iI i))] []) : V p l e room_1 s m args below meth c 9 L (HH L g) (c0) (s0) Q 686 [(0, .ref b), (1, .ref (adr L 0 0 0)), (2, .ref (adr L 14 0 0)), (3, .ref (adr L 20 0 0)), (4, .int (iI i))] [] := by
  refine v_aload_n (pc := 686) C 1 rfl rfl dL_law_686 ?_
  refine v_aload_n (pc := 687) C 0 rfl rfl dL_law_687 ?_
  refine v_iload (pc := 688) C 4 rfl dL_law_688 ?_
  refine v_iconst (pc := 690) C dL_law_690 ?_
  refine v_iadd (pc := 691) C dL_law_691 ?_
  refine v_sld (pc := 692) C hX hb hbA (a := i + 1) ⟨by omega, by omega⟩ (by omega) dL_law_692 ?_
  refine v_aload_n (pc := 693) C 3 rfl rfl dL_law_693 ?_
  refine v_calliH (pc := 694) C cwh_goBack (ct_L_goBack l L hfl g n (sx xs (i + 1)) hI (sx_rg xs _)) ⟨Nat.le_of_ble_eq_true rfl, Nat.le_of_ble_eq_true rfl⟩ rfl (Nat.le_of_ble_eq_true rfl) ⟨by show c0 + 2 ≤ 622385; omega, by show s0 + 12 ≤ 7228948; omega⟩ rfl dL_law_694 (fun r9 u hP => ?_)
  have hf := fu_goBack hI hP
  obtain ⟨mw, m3, m6, mb, mc, ms, mk⟩ := MI_of hI hn hf
  refine v_istore (pc := 697) C [(5, .int r9), (0, .ref b), (1, .ref (adr L 0 0 0)), (2, .ref (adr L 14 0 0)), (3, .ref (adr L 20 0 0)), (4, .int (iI i))] (by decide) rfl dL_law_697 ?_
  refine v_aload_n (pc := 699) C 3 rfl rfl dL_law_699 ?_
  refine v_aload_n (pc := 700) C 1 rfl rfl dL_law_700 ?_
  refine v_iload (pc := 701) C 5 rfl dL_law_701 ?_
  refine v_iconst (pc := 703) C dL_law_703 ?_
  refine v_iadd (pc := 704) C dL_law_704 ?_
  refine v_sld (pc := 705) C hX hb hbA (a := i + 1) ⟨by omega, by omega⟩ (by omega) dL_law_705 ?_
  refine v_calliV (pc := 706) C cw_RL_120 rcv_14 (ct_X7_goBack l L u (sx xs (i + 1)) m3 mk (sx_rg xs _)) ⟨Nat.le_of_ble_eq_true rfl, Nat.le_of_ble_eq_true rfl⟩ rfl (Nat.le_of_ble_eq_true rfl) ⟨by show c0 + 2 + 0 ≤ 622385; omega, by show s0 + 12 + 0 ≤ 7228948; omega⟩ rfl dL_law_706 (fun rb v hM => ?_)
  obtain ⟨k, hk, hrk, hv0, hv20, hIv⟩ := st_goBack hI hP hM
  subst hk
  refine v_istore (pc := 709) C [(6, .int rb), (5, .int (iI k)), (0, .ref b), (1, .ref (adr L 0 0 0)), (2, .ref (adr L 14 0 0)), (3, .ref (adr L 20 0 0)), (4, .int (iI i))] (by decide) rfl dL_law_709 ?_
  refine v_aload_n (pc := 711) C 4 rfl rfl dL_law_711 ?_
  refine v_calliV (pc := 712) C cw_RL_83 rcv_14 (ct_X7_thrown l L v) ⟨Nat.le_of_ble_eq_true rfl, Nat.le_of_ble_eq_true rfl⟩ rfl (Nat.le_of_ble_eq_true rfl) ⟨by show c0 + 2 + 0 + 0 ≤ 622385; omega, by show s0 + 12 + 0 + 0 ≤ 7228948; omega⟩ rfl dL_law_712 (fun r8 v8 h8 => ?_)
  obtain ⟨h8, h9⟩ := h8
  rw [h8, h9, hv0]
  refine v_iload (pc := 715) C 1 rfl dL_law_715 ?_
  refine v_icmp_eq (pc := 717) C 722 hrk hrk (by decide) dL_law_717 (fun _ => ?_) (fun h => absurd rfl h)
  refine v_iload (pc := 722) C 1 rfl dL_law_722 ?_
  refine v_if_ne (pc := 724) C 739 hrk (by decide) dL_law_724 (fun hk0 => ?_) (fun hk0 => ?_)
  · skip
    refine v_goto (pc := 739) C 1375 (by decide) dL_law_739 ?_
    refine v_widen (k := c0 + 3) (n := s0 + 18) (by omega) (by omega) ?_
    exact v_lsub [2, 3, 4, 5, 6] rfl (kend v hIv)
  · skip
    refine v_aload_n (pc := 727) C 5 rfl rfl dL_law_727 ?_
    refine v_iconst (pc := 728) C dL_law_728 ?_
    refine al_20 (pc := 729) C (by decide) dL_law_729 rb.toInt (hv20 (Decidable.not_not.mp hk0)) ?_
    refine v_iload (pc := 730) C 0 rfl dL_law_730 ?_
    refine v_i2lw (pc := 732) C dL_law_732 ?_
    refine v_lcmpE (pc := 733) C dL_law_733 ?_
    refine v_if_eq (pc := 734) C 739 (by decide) (by decide) dL_law_734 (fun _ => ?_) (fun h => absurd rfl h)
    refine v_goto (pc := 739) C 1375 (by decide) dL_law_739 ?_
    refine v_widen (k := c0 + 3) (n := s0 + 18) (by omega) (by omega) ?_
    exact v_lsub [2, 3, 4, 5, 6] rfl (kend v hIv)
set_option maxHeartbeats 4000000 in
set_option maxRecDepth 100000 in
theorem lc_undo {p : Program} {l : Launch} {e : Env} {s : State} {m : MethodId} {args : Array Value} {below : List Frame} {meth : Method} {c : Code} {L : Lay} {b Lx : Nat} {xs : Nat → Int32} {Q : State → Prop} {g : St} {n i : Int} {c0 s0 : Nat} (hfl : l.flags = flags0) (C : Cx p s m args c cL_law 9 RL L) (hX : va_X b Lx xs s s.heap) (hb : b < s.heap.size) (hbA : ¬ Af L b) (hi : 0 ≤ i ∧ i + 3 < Lx) (hLx : Lx ≤ 2048) (hI : INV g n) (hn : n ≤ 40000) (hc : c0 + 3 ≤ 622385) (hs : s0 + 18 ≤ 7228948) (kend : ∀ v : St, INV v (n + 60) → V p l e room_1 s m args below meth c 9 L (HH L v) (c0 + 3) (s0 + 18) Q 1375 [(0, .ref b), (1, .ref (adr L 0 0 0)), (2, .ref (adr L 14 0 0)), (3, .ref (adr L 20 0 0)), (4, .int (iI i))] []) : V p l e room_1 s m args below meth c 9 L (HH L g) (c0) (s0) Q 742 [(0, .ref b), (1, .ref (adr L 0 0 0)), (2, .ref (adr L 14 0 0)), (3, .ref (adr L 20 0 0)), (4, .int (iI i))] [] := by
  refine v_aload_n (pc := 742) C 1 rfl rfl dL_law_742 ?_
  refine v_aload_n (pc := 743) C 3 rfl rfl dL_law_743 ?_
  refine v_calliH (pc := 744) C cwh_undo (ct_L_undo l L hfl g n  hI ) ⟨Nat.le_of_ble_eq_true rfl, Nat.le_of_ble_eq_true rfl⟩ rfl (Nat.le_of_ble_eq_true rfl) ⟨by show c0 + 1 ≤ 622385; omega, by show s0 + 6 ≤ 7228948; omega⟩ rfl dL_law_744 (fun r9 u hP => ?_)
  have hf := fu_undo hI hP
  obtain ⟨mw, m3, m6, mb, mc, ms, mk⟩ := MI_of hI hn hf
  refine v_istore (pc := 747) C [(5, .int r9), (0, .ref b), (1, .ref (adr L 0 0 0)), (2, .ref (adr L 14 0 0)), (3, .ref (adr L 20 0 0)), (4, .int (iI i))] (by decide) rfl dL_law_747 ?_
  refine v_aload_n (pc := 749) C 3 rfl rfl dL_law_749 ?_
  refine v_calliV (pc := 750) C cw_RL_123 rcv_14 (ct_X7_undo l L u  m3) ⟨Nat.le_of_ble_eq_true rfl, Nat.le_of_ble_eq_true rfl⟩ rfl (Nat.le_of_ble_eq_true rfl) ⟨by show c0 + 1 + 0 ≤ 622385; omega, by show s0 + 6 + 0 ≤ 7228948; omega⟩ rfl dL_law_750 (fun rb v hM => ?_)
  obtain ⟨k, hk, hrk, hv0, hv20, hIv⟩ := st_undo hI hP hM
  subst hk
  refine v_istore (pc := 753) C [(6, .int rb), (5, .int (iI k)), (0, .ref b), (1, .ref (adr L 0 0 0)), (2, .ref (adr L 14 0 0)), (3, .ref (adr L 20 0 0)), (4, .int (iI i))] (by decide) rfl dL_law_753 ?_
  refine v_aload_n (pc := 755) C 4 rfl rfl dL_law_755 ?_
  refine v_calliV (pc := 756) C cw_RL_83 rcv_14 (ct_X7_thrown l L v) ⟨Nat.le_of_ble_eq_true rfl, Nat.le_of_ble_eq_true rfl⟩ rfl (Nat.le_of_ble_eq_true rfl) ⟨by show c0 + 1 + 0 + 0 ≤ 622385; omega, by show s0 + 6 + 0 + 0 ≤ 7228948; omega⟩ rfl dL_law_756 (fun r8 v8 h8 => ?_)
  obtain ⟨h8, h9⟩ := h8
  rw [h8, h9, hv0]
  refine v_iload (pc := 759) C 1 rfl dL_law_759 ?_
  refine v_icmp_eq (pc := 761) C 766 hrk hrk (by decide) dL_law_761 (fun _ => ?_) (fun h => absurd rfl h)
  refine v_iload (pc := 766) C 1 rfl dL_law_766 ?_
  refine v_if_ne (pc := 768) C 783 hrk (by decide) dL_law_768 (fun hk0 => ?_) (fun hk0 => ?_)
  · skip
    refine v_goto (pc := 783) C 1375 (by decide) dL_law_783 ?_
    refine v_widen (k := c0 + 3) (n := s0 + 18) (by omega) (by omega) ?_
    exact v_lsub [2, 3, 4, 5, 6] rfl (kend v hIv)
  · skip
    refine v_aload_n (pc := 771) C 5 rfl rfl dL_law_771 ?_
    refine v_iconst (pc := 772) C dL_law_772 ?_
    refine al_20 (pc := 773) C (by decide) dL_law_773 rb.toInt (hv20 (Decidable.not_not.mp hk0)) ?_
    refine v_iload (pc := 774) C 0 rfl dL_law_774 ?_
    refine v_i2lw (pc := 776) C dL_law_776 ?_
    refine v_lcmpE (pc := 777) C dL_law_777 ?_
    refine v_if_eq (pc := 778) C 783 (by decide) (by decide) dL_law_778 (fun _ => ?_) (fun h => absurd rfl h)
    refine v_goto (pc := 783) C 1375 (by decide) dL_law_783 ?_
    refine v_widen (k := c0 + 3) (n := s0 + 18) (by omega) (by omega) ?_
    exact v_lsub [2, 3, 4, 5, 6] rfl (kend v hIv)
set_option maxHeartbeats 4000000 in
set_option maxRecDepth 100000 in
theorem lc_playerOf {p : Program} {l : Launch} {e : Env} {s : State} {m : MethodId} {args : Array Value} {below : List Frame} {meth : Method} {c : Code} {L : Lay} {b Lx : Nat} {xs : Nat → Int32} {Q : State → Prop} {g : St} {n i : Int} {c0 s0 : Nat} (hfl : l.flags = flags0) (C : Cx p s m args c cL_law 9 RL L) (hX : va_X b Lx xs s s.heap) (hb : b < s.heap.size) (hbA : ¬ Af L b) (hi : 0 ≤ i ∧ i + 3 < Lx) (hLx : Lx ≤ 2048) (hI : INV g n) (hn : n ≤ 40000) (hc : c0 + 3 ≤ 622385) (hs : s0 + 18 ≤ 7228948) (kend : ∀ v : St, INV v (n + 60) → V p l e room_1 s m args below meth c 9 L (HH L v) (c0 + 3) (s0 + 18) Q 1375 [(0, .ref b), (1, .ref (adr L 0 0 0)), (2, .ref (adr L 14 0 0)), (3, .ref (adr L 20 0 0)), (4, .int (iI i))] []) : V p l e room_1 s m args below meth c 9 L (HH L g) (c0) (s0) Q 786 [(0, .ref b), (1, .ref (adr L 0 0 0)), (2, .ref (adr L 14 0 0)), (3, .ref (adr L 20 0 0)), (4, .int (iI i))] [] := by
  refine v_aload_n (pc := 786) C 1 rfl rfl dL_law_786 ?_
  refine v_aload_n (pc := 787) C 0 rfl rfl dL_law_787 ?_
  refine v_iload (pc := 788) C 4 rfl dL_law_788 ?_
  refine v_iconst (pc := 790) C dL_law_790 ?_
  refine v_iadd (pc := 791) C dL_law_791 ?_
  refine v_sld (pc := 792) C hX hb hbA (a := i + 1) ⟨by omega, by omega⟩ (by omega) dL_law_792 ?_
  refine v_aload_n (pc := 793) C 0 rfl rfl dL_law_793 ?_
  refine v_iload (pc := 794) C 4 rfl dL_law_794 ?_
  refine v_iconst (pc := 796) C dL_law_796 ?_
  refine v_iadd (pc := 797) C dL_law_797 ?_
  refine v_sld (pc := 798) C hX hb hbA (a := i + 2) ⟨by omega, by omega⟩ (by omega) dL_law_798 ?_
  refine v_aload_n (pc := 799) C 3 rfl rfl dL_law_799 ?_
  refine v_calliH (pc := 800) C cwh_playerOf (ct_L_playerOf l L hfl g n (sx xs (i + 1)) (sx xs (i + 2)) hI (sx_rg xs _) (sx_rg xs _)) ⟨Nat.le_of_ble_eq_true rfl, Nat.le_of_ble_eq_true rfl⟩ rfl (Nat.le_of_ble_eq_true rfl) ⟨by show c0 + 2 ≤ 622385; omega, by show s0 + 12 ≤ 7228948; omega⟩ rfl dL_law_800 (fun r9 u hP => ?_)
  have hf := fu_playerOf hI hP
  obtain ⟨mw, m3, m6, mb, mc, ms, mk⟩ := MI_of hI hn hf
  refine v_istore (pc := 803) C [(5, .int r9), (0, .ref b), (1, .ref (adr L 0 0 0)), (2, .ref (adr L 14 0 0)), (3, .ref (adr L 20 0 0)), (4, .int (iI i))] (by decide) rfl dL_law_803 ?_
  refine v_aload_n (pc := 805) C 3 rfl rfl dL_law_805 ?_
  refine v_aload_n (pc := 806) C 1 rfl rfl dL_law_806 ?_
  refine v_iload (pc := 807) C 5 rfl dL_law_807 ?_
  refine v_iconst (pc := 809) C dL_law_809 ?_
  refine v_iadd (pc := 810) C dL_law_810 ?_
  refine v_sld (pc := 811) C hX hb hbA (a := i + 1) ⟨by omega, by omega⟩ (by omega) dL_law_811 ?_
  refine v_aload_n (pc := 812) C 1 rfl rfl dL_law_812 ?_
  refine v_iload (pc := 813) C 5 rfl dL_law_813 ?_
  refine v_iconst (pc := 815) C dL_law_815 ?_
  refine v_iadd (pc := 816) C dL_law_816 ?_
  refine v_sld (pc := 817) C hX hb hbA (a := i + 2) ⟨by omega, by omega⟩ (by omega) dL_law_817 ?_
  refine v_calliV (pc := 818) C cw_RL_126 rcv_14 (ct_X7_playerOf l L u 1 (sx xs (i + 1)) (sx xs (i + 2)) mw (by decide) (sx_rg xs _) (sx_rg xs _)) ⟨Nat.le_of_ble_eq_true rfl, Nat.le_of_ble_eq_true rfl⟩ rfl (Nat.le_of_ble_eq_true rfl) ⟨by show c0 + 2 + 0 ≤ 622385; omega, by show s0 + 12 + 0 ≤ 7228948; omega⟩ rfl dL_law_818 (fun rb v hM => ?_)
  obtain ⟨k, hk, hrk, hv0, hv20, hIv⟩ := st_playerOf hI hP hM
  subst hk
  refine v_istore (pc := 821) C [(6, .int rb), (5, .int (iI k)), (0, .ref b), (1, .ref (adr L 0 0 0)), (2, .ref (adr L 14 0 0)), (3, .ref (adr L 20 0 0)), (4, .int (iI i))] (by decide) rfl dL_law_821 ?_
  refine v_aload_n (pc := 823) C 4 rfl rfl dL_law_823 ?_
  refine v_calliV (pc := 824) C cw_RL_83 rcv_14 (ct_X7_thrown l L v) ⟨Nat.le_of_ble_eq_true rfl, Nat.le_of_ble_eq_true rfl⟩ rfl (Nat.le_of_ble_eq_true rfl) ⟨by show c0 + 2 + 0 + 0 ≤ 622385; omega, by show s0 + 12 + 0 + 0 ≤ 7228948; omega⟩ rfl dL_law_824 (fun r8 v8 h8 => ?_)
  obtain ⟨h8, h9⟩ := h8
  rw [h8, h9, hv0]
  refine v_iload (pc := 827) C 1 rfl dL_law_827 ?_
  refine v_icmp_eq (pc := 829) C 834 hrk hrk (by decide) dL_law_829 (fun _ => ?_) (fun h => absurd rfl h)
  refine v_iload (pc := 834) C 1 rfl dL_law_834 ?_
  refine v_if_ne (pc := 836) C 851 hrk (by decide) dL_law_836 (fun hk0 => ?_) (fun hk0 => ?_)
  · skip
    refine v_goto (pc := 851) C 1375 (by decide) dL_law_851 ?_
    refine v_widen (k := c0 + 3) (n := s0 + 18) (by omega) (by omega) ?_
    exact v_lsub [2, 3, 4, 5, 6] rfl (kend v hIv)
  · skip
    refine v_aload_n (pc := 839) C 5 rfl rfl dL_law_839 ?_
    refine v_iconst (pc := 840) C dL_law_840 ?_
    refine al_20 (pc := 841) C (by decide) dL_law_841 rb.toInt (hv20 (Decidable.not_not.mp hk0)) ?_
    refine v_iload (pc := 842) C 0 rfl dL_law_842 ?_
    refine v_i2lw (pc := 844) C dL_law_844 ?_
    refine v_lcmpE (pc := 845) C dL_law_845 ?_
    refine v_if_eq (pc := 846) C 851 (by decide) (by decide) dL_law_846 (fun _ => ?_) (fun h => absurd rfl h)
    refine v_goto (pc := 851) C 1375 (by decide) dL_law_851 ?_
    refine v_widen (k := c0 + 3) (n := s0 + 18) (by omega) (by omega) ?_
    exact v_lsub [2, 3, 4, 5, 6] rfl (kend v hIv)
set_option maxHeartbeats 4000000 in
set_option maxRecDepth 100000 in
theorem lc_echoOf {p : Program} {l : Launch} {e : Env} {s : State} {m : MethodId} {args : Array Value} {below : List Frame} {meth : Method} {c : Code} {L : Lay} {b Lx : Nat} {xs : Nat → Int32} {Q : State → Prop} {g : St} {n i : Int} {c0 s0 : Nat} (hfl : l.flags = flags0) (C : Cx p s m args c cL_law 9 RL L) (hX : va_X b Lx xs s s.heap) (hb : b < s.heap.size) (hbA : ¬ Af L b) (hi : 0 ≤ i ∧ i + 3 < Lx) (hLx : Lx ≤ 2048) (hI : INV g n) (hn : n ≤ 40000) (hc : c0 + 3 ≤ 622385) (hs : s0 + 18 ≤ 7228948) (kend : ∀ v : St, INV v (n + 60) → V p l e room_1 s m args below meth c 9 L (HH L v) (c0 + 3) (s0 + 18) Q 1375 [(0, .ref b), (1, .ref (adr L 0 0 0)), (2, .ref (adr L 14 0 0)), (3, .ref (adr L 20 0 0)), (4, .int (iI i))] []) : V p l e room_1 s m args below meth c 9 L (HH L g) (c0) (s0) Q 854 [(0, .ref b), (1, .ref (adr L 0 0 0)), (2, .ref (adr L 14 0 0)), (3, .ref (adr L 20 0 0)), (4, .int (iI i))] [] := by
  refine v_aload_n (pc := 854) C 1 rfl rfl dL_law_854 ?_
  refine v_aload_n (pc := 855) C 0 rfl rfl dL_law_855 ?_
  refine v_iload (pc := 856) C 4 rfl dL_law_856 ?_
  refine v_iconst (pc := 858) C dL_law_858 ?_
  refine v_iadd (pc := 859) C dL_law_859 ?_
  refine v_sld (pc := 860) C hX hb hbA (a := i + 1) ⟨by omega, by omega⟩ (by omega) dL_law_860 ?_
  refine v_aload_n (pc := 861) C 0 rfl rfl dL_law_861 ?_
  refine v_iload (pc := 862) C 4 rfl dL_law_862 ?_
  refine v_iconst (pc := 864) C dL_law_864 ?_
  refine v_iadd (pc := 865) C dL_law_865 ?_
  refine v_sld (pc := 866) C hX hb hbA (a := i + 2) ⟨by omega, by omega⟩ (by omega) dL_law_866 ?_
  refine v_aload_n (pc := 867) C 3 rfl rfl dL_law_867 ?_
  refine v_calliH (pc := 868) C cwh_echoOf (ct_L_echoOf l L hfl g n (sx xs (i + 1)) (sx xs (i + 2)) hI (sx_rg xs _) (sx_rg xs _)) ⟨Nat.le_of_ble_eq_true rfl, Nat.le_of_ble_eq_true rfl⟩ rfl (Nat.le_of_ble_eq_true rfl) ⟨by show c0 + 1 ≤ 622385; omega, by show s0 + 6 ≤ 7228948; omega⟩ rfl dL_law_868 (fun r9 u hP => ?_)
  have hf := fu_echoOf hI hP
  obtain ⟨mw, m3, m6, mb, mc, ms, mk⟩ := MI_of hI hn hf
  refine v_istore (pc := 871) C [(5, .int r9), (0, .ref b), (1, .ref (adr L 0 0 0)), (2, .ref (adr L 14 0 0)), (3, .ref (adr L 20 0 0)), (4, .int (iI i))] (by decide) rfl dL_law_871 ?_
  refine v_aload_n (pc := 873) C 3 rfl rfl dL_law_873 ?_
  refine v_aload_n (pc := 874) C 1 rfl rfl dL_law_874 ?_
  refine v_iload (pc := 875) C 5 rfl dL_law_875 ?_
  refine v_iconst (pc := 877) C dL_law_877 ?_
  refine v_iadd (pc := 878) C dL_law_878 ?_
  refine v_sld (pc := 879) C hX hb hbA (a := i + 1) ⟨by omega, by omega⟩ (by omega) dL_law_879 ?_
  refine v_aload_n (pc := 880) C 1 rfl rfl dL_law_880 ?_
  refine v_iload (pc := 881) C 5 rfl dL_law_881 ?_
  refine v_iconst (pc := 883) C dL_law_883 ?_
  refine v_iadd (pc := 884) C dL_law_884 ?_
  refine v_sld (pc := 885) C hX hb hbA (a := i + 2) ⟨by omega, by omega⟩ (by omega) dL_law_885 ?_
  refine v_calliV (pc := 886) C cw_RL_129 rcv_14 (ct_X7_echoOf l L u 1 (sx xs (i + 1)) (sx xs (i + 2)) mw (by decide) (sx_rg xs _) (sx_rg xs _)) ⟨Nat.le_of_ble_eq_true rfl, Nat.le_of_ble_eq_true rfl⟩ rfl (Nat.le_of_ble_eq_true rfl) ⟨by show c0 + 1 + 0 ≤ 622385; omega, by show s0 + 6 + 0 ≤ 7228948; omega⟩ rfl dL_law_886 (fun rb v hM => ?_)
  obtain ⟨k, hk, hrk, hv0, hv20, hIv⟩ := st_echoOf hI hP hM
  subst hk
  refine v_istore (pc := 889) C [(6, .int rb), (5, .int (iI k)), (0, .ref b), (1, .ref (adr L 0 0 0)), (2, .ref (adr L 14 0 0)), (3, .ref (adr L 20 0 0)), (4, .int (iI i))] (by decide) rfl dL_law_889 ?_
  refine v_aload_n (pc := 891) C 4 rfl rfl dL_law_891 ?_
  refine v_calliV (pc := 892) C cw_RL_83 rcv_14 (ct_X7_thrown l L v) ⟨Nat.le_of_ble_eq_true rfl, Nat.le_of_ble_eq_true rfl⟩ rfl (Nat.le_of_ble_eq_true rfl) ⟨by show c0 + 1 + 0 + 0 ≤ 622385; omega, by show s0 + 6 + 0 + 0 ≤ 7228948; omega⟩ rfl dL_law_892 (fun r8 v8 h8 => ?_)
  obtain ⟨h8, h9⟩ := h8
  rw [h8, h9, hv0]
  refine v_iload (pc := 895) C 1 rfl dL_law_895 ?_
  refine v_icmp_eq (pc := 897) C 902 hrk hrk (by decide) dL_law_897 (fun _ => ?_) (fun h => absurd rfl h)
  refine v_iload (pc := 902) C 1 rfl dL_law_902 ?_
  refine v_if_ne (pc := 904) C 919 hrk (by decide) dL_law_904 (fun hk0 => ?_) (fun hk0 => ?_)
  · skip
    refine v_goto (pc := 919) C 1375 (by decide) dL_law_919 ?_
    refine v_widen (k := c0 + 3) (n := s0 + 18) (by omega) (by omega) ?_
    exact v_lsub [2, 3, 4, 5, 6] rfl (kend v hIv)
  · skip
    refine v_aload_n (pc := 907) C 5 rfl rfl dL_law_907 ?_
    refine v_iconst (pc := 908) C dL_law_908 ?_
    refine al_20 (pc := 909) C (by decide) dL_law_909 rb.toInt (hv20 (Decidable.not_not.mp hk0)) ?_
    refine v_iload (pc := 910) C 0 rfl dL_law_910 ?_
    refine v_i2lw (pc := 912) C dL_law_912 ?_
    refine v_lcmpE (pc := 913) C dL_law_913 ?_
    refine v_if_eq (pc := 914) C 919 (by decide) (by decide) dL_law_914 (fun _ => ?_) (fun h => absurd rfl h)
    refine v_goto (pc := 919) C 1375 (by decide) dL_law_919 ?_
    refine v_widen (k := c0 + 3) (n := s0 + 18) (by omega) (by omega) ?_
    exact v_lsub [2, 3, 4, 5, 6] rfl (kend v hIv)
set_option maxHeartbeats 4000000 in
set_option maxRecDepth 100000 in
theorem lc_count {p : Program} {l : Launch} {e : Env} {s : State} {m : MethodId} {args : Array Value} {below : List Frame} {meth : Method} {c : Code} {L : Lay} {b Lx : Nat} {xs : Nat → Int32} {Q : State → Prop} {g : St} {n i : Int} {c0 s0 : Nat} (hfl : l.flags = flags0) (C : Cx p s m args c cL_law 9 RL L) (hX : va_X b Lx xs s s.heap) (hb : b < s.heap.size) (hbA : ¬ Af L b) (hi : 0 ≤ i ∧ i + 3 < Lx) (hLx : Lx ≤ 2048) (hI : INV g n) (hn : n ≤ 40000) (hc : c0 + 3 ≤ 622385) (hs : s0 + 18 ≤ 7228948) (kend : ∀ v : St, INV v (n + 60) → V p l e room_1 s m args below meth c 9 L (HH L v) (c0 + 3) (s0 + 18) Q 1375 [(0, .ref b), (1, .ref (adr L 0 0 0)), (2, .ref (adr L 14 0 0)), (3, .ref (adr L 20 0 0)), (4, .int (iI i))] []) : V p l e room_1 s m args below meth c 9 L (HH L g) (c0) (s0) Q 922 [(0, .ref b), (1, .ref (adr L 0 0 0)), (2, .ref (adr L 14 0 0)), (3, .ref (adr L 20 0 0)), (4, .int (iI i))] [] := by
  refine v_aload_n (pc := 922) C 1 rfl rfl dL_law_922 ?_
  refine v_aload_n (pc := 923) C 0 rfl rfl dL_law_923 ?_
  refine v_iload (pc := 924) C 4 rfl dL_law_924 ?_
  refine v_iconst (pc := 926) C dL_law_926 ?_
  refine v_iadd (pc := 927) C dL_law_927 ?_
  refine v_sld (pc := 928) C hX hb hbA (a := i + 1) ⟨by omega, by omega⟩ (by omega) dL_law_928 ?_
  refine v_aload_n (pc := 929) C 3 rfl rfl dL_law_929 ?_
  refine v_calliH (pc := 930) C cwh_count (ct_L_count l L hfl g n (sx xs (i + 1)) hI (sx_rg xs _)) ⟨Nat.le_of_ble_eq_true rfl, Nat.le_of_ble_eq_true rfl⟩ rfl (Nat.le_of_ble_eq_true rfl) ⟨by show c0 + 1 ≤ 622385; omega, by show s0 + 6 ≤ 7228948; omega⟩ rfl dL_law_930 (fun r9 u hP => ?_)
  have hf := fu_count hI hP
  obtain ⟨mw, m3, m6, mb, mc, ms, mk⟩ := MI_of hI hn hf
  refine v_istore (pc := 933) C [(5, .int r9), (0, .ref b), (1, .ref (adr L 0 0 0)), (2, .ref (adr L 14 0 0)), (3, .ref (adr L 20 0 0)), (4, .int (iI i))] (by decide) rfl dL_law_933 ?_
  refine v_aload_n (pc := 935) C 3 rfl rfl dL_law_935 ?_
  refine v_aload_n (pc := 936) C 1 rfl rfl dL_law_936 ?_
  refine v_iload (pc := 937) C 5 rfl dL_law_937 ?_
  refine v_iconst (pc := 939) C dL_law_939 ?_
  refine v_iadd (pc := 940) C dL_law_940 ?_
  refine v_sld (pc := 941) C hX hb hbA (a := i + 1) ⟨by omega, by omega⟩ (by omega) dL_law_941 ?_
  refine v_calliV (pc := 942) C cw_RL_132 rcv_14 (ct_X7_count l L u (sx xs (i + 1)) (sx_rg xs _)) ⟨Nat.le_of_ble_eq_true rfl, Nat.le_of_ble_eq_true rfl⟩ rfl (Nat.le_of_ble_eq_true rfl) ⟨by show c0 + 1 + 0 ≤ 622385; omega, by show s0 + 6 + 0 ≤ 7228948; omega⟩ rfl dL_law_942 (fun rb v hM => ?_)
  obtain ⟨k, hk, hrk, hv0, hv20, hIv⟩ := st_count hI hP hM
  subst hk
  refine v_istore (pc := 945) C [(6, .int rb), (5, .int (iI k)), (0, .ref b), (1, .ref (adr L 0 0 0)), (2, .ref (adr L 14 0 0)), (3, .ref (adr L 20 0 0)), (4, .int (iI i))] (by decide) rfl dL_law_945 ?_
  refine v_aload_n (pc := 947) C 4 rfl rfl dL_law_947 ?_
  refine v_calliV (pc := 948) C cw_RL_83 rcv_14 (ct_X7_thrown l L v) ⟨Nat.le_of_ble_eq_true rfl, Nat.le_of_ble_eq_true rfl⟩ rfl (Nat.le_of_ble_eq_true rfl) ⟨by show c0 + 1 + 0 + 0 ≤ 622385; omega, by show s0 + 6 + 0 + 0 ≤ 7228948; omega⟩ rfl dL_law_948 (fun r8 v8 h8 => ?_)
  obtain ⟨h8, h9⟩ := h8
  rw [h8, h9, hv0]
  refine v_iload (pc := 951) C 1 rfl dL_law_951 ?_
  refine v_icmp_eq (pc := 953) C 958 hrk hrk (by decide) dL_law_953 (fun _ => ?_) (fun h => absurd rfl h)
  refine v_iload (pc := 958) C 1 rfl dL_law_958 ?_
  refine v_if_ne (pc := 960) C 975 hrk (by decide) dL_law_960 (fun hk0 => ?_) (fun hk0 => ?_)
  · skip
    refine v_goto (pc := 975) C 1375 (by decide) dL_law_975 ?_
    refine v_widen (k := c0 + 3) (n := s0 + 18) (by omega) (by omega) ?_
    exact v_lsub [2, 3, 4, 5, 6] rfl (kend v hIv)
  · skip
    refine v_aload_n (pc := 963) C 5 rfl rfl dL_law_963 ?_
    refine v_iconst (pc := 964) C dL_law_964 ?_
    refine al_20 (pc := 965) C (by decide) dL_law_965 rb.toInt (hv20 (Decidable.not_not.mp hk0)) ?_
    refine v_iload (pc := 966) C 0 rfl dL_law_966 ?_
    refine v_i2lw (pc := 968) C dL_law_968 ?_
    refine v_lcmpE (pc := 969) C dL_law_969 ?_
    refine v_if_eq (pc := 970) C 975 (by decide) (by decide) dL_law_970 (fun _ => ?_) (fun h => absurd rfl h)
    refine v_goto (pc := 975) C 1375 (by decide) dL_law_975 ?_
    refine v_widen (k := c0 + 3) (n := s0 + 18) (by omega) (by omega) ?_
    exact v_lsub [2, 3, 4, 5, 6] rfl (kend v hIv)
set_option maxHeartbeats 4000000 in
set_option maxRecDepth 100000 in
theorem lc_setting {p : Program} {l : Launch} {e : Env} {s : State} {m : MethodId} {args : Array Value} {below : List Frame} {meth : Method} {c : Code} {L : Lay} {b Lx : Nat} {xs : Nat → Int32} {Q : State → Prop} {g : St} {n i : Int} {c0 s0 : Nat} (hfl : l.flags = flags0) (C : Cx p s m args c cL_law 9 RL L) (hX : va_X b Lx xs s s.heap) (hb : b < s.heap.size) (hbA : ¬ Af L b) (hi : 0 ≤ i ∧ i + 3 < Lx) (hLx : Lx ≤ 2048) (hI : INV g n) (hn : n ≤ 40000) (hc : c0 + 3 ≤ 622385) (hs : s0 + 18 ≤ 7228948) (kend : ∀ v : St, INV v (n + 60) → V p l e room_1 s m args below meth c 9 L (HH L v) (c0 + 3) (s0 + 18) Q 1375 [(0, .ref b), (1, .ref (adr L 0 0 0)), (2, .ref (adr L 14 0 0)), (3, .ref (adr L 20 0 0)), (4, .int (iI i))] []) : V p l e room_1 s m args below meth c 9 L (HH L g) (c0) (s0) Q 978 [(0, .ref b), (1, .ref (adr L 0 0 0)), (2, .ref (adr L 14 0 0)), (3, .ref (adr L 20 0 0)), (4, .int (iI i))] [] := by
  refine v_aload_n (pc := 978) C 1 rfl rfl dL_law_978 ?_
  refine v_aload_n (pc := 979) C 0 rfl rfl dL_law_979 ?_
  refine v_iload (pc := 980) C 4 rfl dL_law_980 ?_
  refine v_iconst (pc := 982) C dL_law_982 ?_
  refine v_iadd (pc := 983) C dL_law_983 ?_
  refine v_sld (pc := 984) C hX hb hbA (a := i + 1) ⟨by omega, by omega⟩ (by omega) dL_law_984 ?_
  refine v_aload_n (pc := 985) C 3 rfl rfl dL_law_985 ?_
  refine v_calliH (pc := 986) C cwh_setting (ct_L_setting l L hfl g n (sx xs (i + 1)) hI (sx_rg xs _)) ⟨Nat.le_of_ble_eq_true rfl, Nat.le_of_ble_eq_true rfl⟩ rfl (Nat.le_of_ble_eq_true rfl) ⟨by show c0 + 1 ≤ 622385; omega, by show s0 + 6 ≤ 7228948; omega⟩ rfl dL_law_986 (fun r9 u hP => ?_)
  have hf := fu_setting hI hP
  obtain ⟨mw, m3, m6, mb, mc, ms, mk⟩ := MI_of hI hn hf
  refine v_istore (pc := 989) C [(5, .int r9), (0, .ref b), (1, .ref (adr L 0 0 0)), (2, .ref (adr L 14 0 0)), (3, .ref (adr L 20 0 0)), (4, .int (iI i))] (by decide) rfl dL_law_989 ?_
  refine v_aload_n (pc := 991) C 3 rfl rfl dL_law_991 ?_
  refine v_aload_n (pc := 992) C 1 rfl rfl dL_law_992 ?_
  refine v_iload (pc := 993) C 5 rfl dL_law_993 ?_
  refine v_iconst (pc := 995) C dL_law_995 ?_
  refine v_iadd (pc := 996) C dL_law_996 ?_
  refine v_sld (pc := 997) C hX hb hbA (a := i + 1) ⟨by omega, by omega⟩ (by omega) dL_law_997 ?_
  refine v_calliV (pc := 998) C cw_RL_135 rcv_14 (ct_X7_setting l L u (sx xs (i + 1)) (sx_rg xs _)) ⟨Nat.le_of_ble_eq_true rfl, Nat.le_of_ble_eq_true rfl⟩ rfl (Nat.le_of_ble_eq_true rfl) ⟨by show c0 + 1 + 0 ≤ 622385; omega, by show s0 + 6 + 0 ≤ 7228948; omega⟩ rfl dL_law_998 (fun rb v hM => ?_)
  obtain ⟨k, hk, hrk, hv0, hv20, hIv⟩ := st_setting hI hP hM
  subst hk
  refine v_istore (pc := 1001) C [(6, .int rb), (5, .int (iI k)), (0, .ref b), (1, .ref (adr L 0 0 0)), (2, .ref (adr L 14 0 0)), (3, .ref (adr L 20 0 0)), (4, .int (iI i))] (by decide) rfl dL_law_1001 ?_
  refine v_aload_n (pc := 1003) C 4 rfl rfl dL_law_1003 ?_
  refine v_calliV (pc := 1004) C cw_RL_83 rcv_14 (ct_X7_thrown l L v) ⟨Nat.le_of_ble_eq_true rfl, Nat.le_of_ble_eq_true rfl⟩ rfl (Nat.le_of_ble_eq_true rfl) ⟨by show c0 + 1 + 0 + 0 ≤ 622385; omega, by show s0 + 6 + 0 + 0 ≤ 7228948; omega⟩ rfl dL_law_1004 (fun r8 v8 h8 => ?_)
  obtain ⟨h8, h9⟩ := h8
  rw [h8, h9, hv0]
  refine v_iload (pc := 1007) C 1 rfl dL_law_1007 ?_
  refine v_icmp_eq (pc := 1009) C 1014 hrk hrk (by decide) dL_law_1009 (fun _ => ?_) (fun h => absurd rfl h)
  refine v_iload (pc := 1014) C 1 rfl dL_law_1014 ?_
  refine v_if_ne (pc := 1016) C 1031 hrk (by decide) dL_law_1016 (fun hk0 => ?_) (fun hk0 => ?_)
  · skip
    refine v_goto (pc := 1031) C 1375 (by decide) dL_law_1031 ?_
    refine v_widen (k := c0 + 3) (n := s0 + 18) (by omega) (by omega) ?_
    exact v_lsub [2, 3, 4, 5, 6] rfl (kend v hIv)
  · skip
    refine v_aload_n (pc := 1019) C 5 rfl rfl dL_law_1019 ?_
    refine v_iconst (pc := 1020) C dL_law_1020 ?_
    refine al_20 (pc := 1021) C (by decide) dL_law_1021 rb.toInt (hv20 (Decidable.not_not.mp hk0)) ?_
    refine v_iload (pc := 1022) C 0 rfl dL_law_1022 ?_
    refine v_i2lw (pc := 1024) C dL_law_1024 ?_
    refine v_lcmpE (pc := 1025) C dL_law_1025 ?_
    refine v_if_eq (pc := 1026) C 1031 (by decide) (by decide) dL_law_1026 (fun _ => ?_) (fun h => absurd rfl h)
    refine v_goto (pc := 1031) C 1375 (by decide) dL_law_1031 ?_
    refine v_widen (k := c0 + 3) (n := s0 + 18) (by omega) (by omega) ?_
    exact v_lsub [2, 3, 4, 5, 6] rfl (kend v hIv)
set_option maxHeartbeats 4000000 in
set_option maxRecDepth 100000 in
theorem lc_ballIn {p : Program} {l : Launch} {e : Env} {s : State} {m : MethodId} {args : Array Value} {below : List Frame} {meth : Method} {c : Code} {L : Lay} {b Lx : Nat} {xs : Nat → Int32} {Q : State → Prop} {g : St} {n i : Int} {c0 s0 : Nat} (hfl : l.flags = flags0) (C : Cx p s m args c cL_law 9 RL L) (hX : va_X b Lx xs s s.heap) (hb : b < s.heap.size) (hbA : ¬ Af L b) (hi : 0 ≤ i ∧ i + 3 < Lx) (hLx : Lx ≤ 2048) (hI : INV g n) (hn : n ≤ 40000) (hc : c0 + 3 ≤ 622385) (hs : s0 + 18 ≤ 7228948) (kend : ∀ v : St, INV v (n + 60) → V p l e room_1 s m args below meth c 9 L (HH L v) (c0 + 3) (s0 + 18) Q 1375 [(0, .ref b), (1, .ref (adr L 0 0 0)), (2, .ref (adr L 14 0 0)), (3, .ref (adr L 20 0 0)), (4, .int (iI i))] []) : V p l e room_1 s m args below meth c 9 L (HH L g) (c0) (s0) Q 1034 [(0, .ref b), (1, .ref (adr L 0 0 0)), (2, .ref (adr L 14 0 0)), (3, .ref (adr L 20 0 0)), (4, .int (iI i))] [] := by
  refine v_aload_n (pc := 1034) C 1 rfl rfl dL_law_1034 ?_
  refine v_aload_n (pc := 1035) C 0 rfl rfl dL_law_1035 ?_
  refine v_iload (pc := 1036) C 4 rfl dL_law_1036 ?_
  refine v_iconst (pc := 1038) C dL_law_1038 ?_
  refine v_iadd (pc := 1039) C dL_law_1039 ?_
  refine v_sld (pc := 1040) C hX hb hbA (a := i + 1) ⟨by omega, by omega⟩ (by omega) dL_law_1040 ?_
  refine v_aload_n (pc := 1041) C 0 rfl rfl dL_law_1041 ?_
  refine v_iload (pc := 1042) C 4 rfl dL_law_1042 ?_
  refine v_iconst (pc := 1044) C dL_law_1044 ?_
  refine v_iadd (pc := 1045) C dL_law_1045 ?_
  refine v_sld (pc := 1046) C hX hb hbA (a := i + 2) ⟨by omega, by omega⟩ (by omega) dL_law_1046 ?_
  refine v_aload_n (pc := 1047) C 3 rfl rfl dL_law_1047 ?_
  refine v_calliH (pc := 1048) C cwh_ballIn (ct_L_ballIn l L hfl g n (sx xs (i + 1)) (sx xs (i + 2)) hI (sx_rg xs _) (sx_rg xs _)) ⟨Nat.le_of_ble_eq_true rfl, Nat.le_of_ble_eq_true rfl⟩ rfl (Nat.le_of_ble_eq_true rfl) ⟨by show c0 + 2 ≤ 622385; omega, by show s0 + 12 ≤ 7228948; omega⟩ rfl dL_law_1048 (fun r9 u hP => ?_)
  have hf := fu_ballIn hI hP
  obtain ⟨mw, m3, m6, mb, mc, ms, mk⟩ := MI_of hI hn hf
  refine v_istore (pc := 1051) C [(5, .int r9), (0, .ref b), (1, .ref (adr L 0 0 0)), (2, .ref (adr L 14 0 0)), (3, .ref (adr L 20 0 0)), (4, .int (iI i))] (by decide) rfl dL_law_1051 ?_
  refine v_aload_n (pc := 1053) C 3 rfl rfl dL_law_1053 ?_
  refine v_aload_n (pc := 1054) C 1 rfl rfl dL_law_1054 ?_
  refine v_iload (pc := 1055) C 5 rfl dL_law_1055 ?_
  refine v_iconst (pc := 1057) C dL_law_1057 ?_
  refine v_iadd (pc := 1058) C dL_law_1058 ?_
  refine v_sld (pc := 1059) C hX hb hbA (a := i + 1) ⟨by omega, by omega⟩ (by omega) dL_law_1059 ?_
  refine v_aload_n (pc := 1060) C 1 rfl rfl dL_law_1060 ?_
  refine v_iload (pc := 1061) C 5 rfl dL_law_1061 ?_
  refine v_iconst (pc := 1063) C dL_law_1063 ?_
  refine v_iadd (pc := 1064) C dL_law_1064 ?_
  refine v_sld (pc := 1065) C hX hb hbA (a := i + 2) ⟨by omega, by omega⟩ (by omega) dL_law_1065 ?_
  refine v_calliV (pc := 1066) C cw_RL_138 rcv_14 (ct_X7_ballIn l L u 1 (sx xs (i + 1)) (sx xs (i + 2)) mw (by decide) (sx_rg xs _) (sx_rg xs _)) ⟨Nat.le_of_ble_eq_true rfl, Nat.le_of_ble_eq_true rfl⟩ rfl (Nat.le_of_ble_eq_true rfl) ⟨by show c0 + 2 + 0 ≤ 622385; omega, by show s0 + 12 + 0 ≤ 7228948; omega⟩ rfl dL_law_1066 (fun rb v hM => ?_)
  obtain ⟨k, hk, hrk, hv0, hv20, hIv⟩ := st_ballIn hI hP hM
  subst hk
  refine v_istore (pc := 1069) C [(6, .int rb), (5, .int (iI k)), (0, .ref b), (1, .ref (adr L 0 0 0)), (2, .ref (adr L 14 0 0)), (3, .ref (adr L 20 0 0)), (4, .int (iI i))] (by decide) rfl dL_law_1069 ?_
  refine v_aload_n (pc := 1071) C 4 rfl rfl dL_law_1071 ?_
  refine v_calliV (pc := 1072) C cw_RL_83 rcv_14 (ct_X7_thrown l L v) ⟨Nat.le_of_ble_eq_true rfl, Nat.le_of_ble_eq_true rfl⟩ rfl (Nat.le_of_ble_eq_true rfl) ⟨by show c0 + 2 + 0 + 0 ≤ 622385; omega, by show s0 + 12 + 0 + 0 ≤ 7228948; omega⟩ rfl dL_law_1072 (fun r8 v8 h8 => ?_)
  obtain ⟨h8, h9⟩ := h8
  rw [h8, h9, hv0]
  refine v_iload (pc := 1075) C 1 rfl dL_law_1075 ?_
  refine v_icmp_eq (pc := 1077) C 1082 hrk hrk (by decide) dL_law_1077 (fun _ => ?_) (fun h => absurd rfl h)
  refine v_iload (pc := 1082) C 1 rfl dL_law_1082 ?_
  refine v_if_ne (pc := 1084) C 1099 hrk (by decide) dL_law_1084 (fun hk0 => ?_) (fun hk0 => ?_)
  · skip
    refine v_goto (pc := 1099) C 1375 (by decide) dL_law_1099 ?_
    refine v_widen (k := c0 + 3) (n := s0 + 18) (by omega) (by omega) ?_
    exact v_lsub [2, 3, 4, 5, 6] rfl (kend v hIv)
  · skip
    refine v_aload_n (pc := 1087) C 5 rfl rfl dL_law_1087 ?_
    refine v_iconst (pc := 1088) C dL_law_1088 ?_
    refine al_20 (pc := 1089) C (by decide) dL_law_1089 rb.toInt (hv20 (Decidable.not_not.mp hk0)) ?_
    refine v_iload (pc := 1090) C 0 rfl dL_law_1090 ?_
    refine v_i2lw (pc := 1092) C dL_law_1092 ?_
    refine v_lcmpE (pc := 1093) C dL_law_1093 ?_
    refine v_if_eq (pc := 1094) C 1099 (by decide) (by decide) dL_law_1094 (fun _ => ?_) (fun h => absurd rfl h)
    refine v_goto (pc := 1099) C 1375 (by decide) dL_law_1099 ?_
    refine v_widen (k := c0 + 3) (n := s0 + 18) (by omega) (by omega) ?_
    exact v_lsub [2, 3, 4, 5, 6] rfl (kend v hIv)
set_option maxHeartbeats 4000000 in
set_option maxRecDepth 100000 in
theorem lc_echoIn {p : Program} {l : Launch} {e : Env} {s : State} {m : MethodId} {args : Array Value} {below : List Frame} {meth : Method} {c : Code} {L : Lay} {b Lx : Nat} {xs : Nat → Int32} {Q : State → Prop} {g : St} {n i : Int} {c0 s0 : Nat} (hfl : l.flags = flags0) (C : Cx p s m args c cL_law 9 RL L) (hX : va_X b Lx xs s s.heap) (hb : b < s.heap.size) (hbA : ¬ Af L b) (hi : 0 ≤ i ∧ i + 3 < Lx) (hLx : Lx ≤ 2048) (hI : INV g n) (hn : n ≤ 40000) (hc : c0 + 3 ≤ 622385) (hs : s0 + 18 ≤ 7228948) (kend : ∀ v : St, INV v (n + 60) → V p l e room_1 s m args below meth c 9 L (HH L v) (c0 + 3) (s0 + 18) Q 1375 [(0, .ref b), (1, .ref (adr L 0 0 0)), (2, .ref (adr L 14 0 0)), (3, .ref (adr L 20 0 0)), (4, .int (iI i))] []) : V p l e room_1 s m args below meth c 9 L (HH L g) (c0) (s0) Q 1102 [(0, .ref b), (1, .ref (adr L 0 0 0)), (2, .ref (adr L 14 0 0)), (3, .ref (adr L 20 0 0)), (4, .int (iI i))] [] := by
  refine v_aload_n (pc := 1102) C 1 rfl rfl dL_law_1102 ?_
  refine v_aload_n (pc := 1103) C 0 rfl rfl dL_law_1103 ?_
  refine v_iload (pc := 1104) C 4 rfl dL_law_1104 ?_
  refine v_iconst (pc := 1106) C dL_law_1106 ?_
  refine v_iadd (pc := 1107) C dL_law_1107 ?_
  refine v_sld (pc := 1108) C hX hb hbA (a := i + 1) ⟨by omega, by omega⟩ (by omega) dL_law_1108 ?_
  refine v_aload_n (pc := 1109) C 0 rfl rfl dL_law_1109 ?_
  refine v_iload (pc := 1110) C 4 rfl dL_law_1110 ?_
  refine v_iconst (pc := 1112) C dL_law_1112 ?_
  refine v_iadd (pc := 1113) C dL_law_1113 ?_
  refine v_sld (pc := 1114) C hX hb hbA (a := i + 2) ⟨by omega, by omega⟩ (by omega) dL_law_1114 ?_
  refine v_aload_n (pc := 1115) C 3 rfl rfl dL_law_1115 ?_
  refine v_calliH (pc := 1116) C cwh_echoIn (ct_L_echoIn l L hfl g n (sx xs (i + 1)) (sx xs (i + 2)) hI (sx_rg xs _) (sx_rg xs _)) ⟨Nat.le_of_ble_eq_true rfl, Nat.le_of_ble_eq_true rfl⟩ rfl (Nat.le_of_ble_eq_true rfl) ⟨by show c0 + 2 ≤ 622385; omega, by show s0 + 12 ≤ 7228948; omega⟩ rfl dL_law_1116 (fun r9 u hP => ?_)
  have hf := fu_echoIn hI hP
  obtain ⟨mw, m3, m6, mb, mc, ms, mk⟩ := MI_of hI hn hf
  refine v_istore (pc := 1119) C [(5, .int r9), (0, .ref b), (1, .ref (adr L 0 0 0)), (2, .ref (adr L 14 0 0)), (3, .ref (adr L 20 0 0)), (4, .int (iI i))] (by decide) rfl dL_law_1119 ?_
  refine v_aload_n (pc := 1121) C 3 rfl rfl dL_law_1121 ?_
  refine v_aload_n (pc := 1122) C 1 rfl rfl dL_law_1122 ?_
  refine v_iload (pc := 1123) C 5 rfl dL_law_1123 ?_
  refine v_iconst (pc := 1125) C dL_law_1125 ?_
  refine v_iadd (pc := 1126) C dL_law_1126 ?_
  refine v_sld (pc := 1127) C hX hb hbA (a := i + 1) ⟨by omega, by omega⟩ (by omega) dL_law_1127 ?_
  refine v_aload_n (pc := 1128) C 1 rfl rfl dL_law_1128 ?_
  refine v_iload (pc := 1129) C 5 rfl dL_law_1129 ?_
  refine v_iconst (pc := 1131) C dL_law_1131 ?_
  refine v_iadd (pc := 1132) C dL_law_1132 ?_
  refine v_sld (pc := 1133) C hX hb hbA (a := i + 2) ⟨by omega, by omega⟩ (by omega) dL_law_1133 ?_
  refine v_calliV (pc := 1134) C cw_RL_141 rcv_14 (ct_X7_echoIn l L u 1 (sx xs (i + 1)) (sx xs (i + 2)) mw (by decide) (sx_rg xs _) (sx_rg xs _)) ⟨Nat.le_of_ble_eq_true rfl, Nat.le_of_ble_eq_true rfl⟩ rfl (Nat.le_of_ble_eq_true rfl) ⟨by show c0 + 2 + 0 ≤ 622385; omega, by show s0 + 12 + 0 ≤ 7228948; omega⟩ rfl dL_law_1134 (fun rb v hM => ?_)
  obtain ⟨k, hk, hrk, hv0, hv20, hIv⟩ := st_echoIn hI hP hM
  subst hk
  refine v_istore (pc := 1137) C [(6, .int rb), (5, .int (iI k)), (0, .ref b), (1, .ref (adr L 0 0 0)), (2, .ref (adr L 14 0 0)), (3, .ref (adr L 20 0 0)), (4, .int (iI i))] (by decide) rfl dL_law_1137 ?_
  refine v_aload_n (pc := 1139) C 4 rfl rfl dL_law_1139 ?_
  refine v_calliV (pc := 1140) C cw_RL_83 rcv_14 (ct_X7_thrown l L v) ⟨Nat.le_of_ble_eq_true rfl, Nat.le_of_ble_eq_true rfl⟩ rfl (Nat.le_of_ble_eq_true rfl) ⟨by show c0 + 2 + 0 + 0 ≤ 622385; omega, by show s0 + 12 + 0 + 0 ≤ 7228948; omega⟩ rfl dL_law_1140 (fun r8 v8 h8 => ?_)
  obtain ⟨h8, h9⟩ := h8
  rw [h8, h9, hv0]
  refine v_iload (pc := 1143) C 1 rfl dL_law_1143 ?_
  refine v_icmp_eq (pc := 1145) C 1150 hrk hrk (by decide) dL_law_1145 (fun _ => ?_) (fun h => absurd rfl h)
  refine v_iload (pc := 1150) C 1 rfl dL_law_1150 ?_
  refine v_if_ne (pc := 1152) C 1167 hrk (by decide) dL_law_1152 (fun hk0 => ?_) (fun hk0 => ?_)
  · skip
    refine v_goto (pc := 1167) C 1375 (by decide) dL_law_1167 ?_
    refine v_widen (k := c0 + 3) (n := s0 + 18) (by omega) (by omega) ?_
    exact v_lsub [2, 3, 4, 5, 6] rfl (kend v hIv)
  · skip
    refine v_aload_n (pc := 1155) C 5 rfl rfl dL_law_1155 ?_
    refine v_iconst (pc := 1156) C dL_law_1156 ?_
    refine al_20 (pc := 1157) C (by decide) dL_law_1157 rb.toInt (hv20 (Decidable.not_not.mp hk0)) ?_
    refine v_iload (pc := 1158) C 0 rfl dL_law_1158 ?_
    refine v_i2lw (pc := 1160) C dL_law_1160 ?_
    refine v_lcmpE (pc := 1161) C dL_law_1161 ?_
    refine v_if_eq (pc := 1162) C 1167 (by decide) (by decide) dL_law_1162 (fun _ => ?_) (fun h => absurd rfl h)
    refine v_goto (pc := 1167) C 1375 (by decide) dL_law_1167 ?_
    refine v_widen (k := c0 + 3) (n := s0 + 18) (by omega) (by omega) ?_
    exact v_lsub [2, 3, 4, 5, 6] rfl (kend v hIv)
set_option maxHeartbeats 4000000 in
set_option maxRecDepth 100000 in
theorem lc_wouldClash {p : Program} {l : Launch} {e : Env} {s : State} {m : MethodId} {args : Array Value} {below : List Frame} {meth : Method} {c : Code} {L : Lay} {b Lx : Nat} {xs : Nat → Int32} {Q : State → Prop} {g : St} {n i : Int} {c0 s0 : Nat} (hfl : l.flags = flags0) (C : Cx p s m args c cL_law 9 RL L) (hX : va_X b Lx xs s s.heap) (hb : b < s.heap.size) (hbA : ¬ Af L b) (hi : 0 ≤ i ∧ i + 3 < Lx) (hLx : Lx ≤ 2048) (hI : INV g n) (hn : n ≤ 40000) (hc : c0 + 3 ≤ 622385) (hs : s0 + 18 ≤ 7228948) (kend : ∀ v : St, INV v (n + 60) → V p l e room_1 s m args below meth c 9 L (HH L v) (c0 + 3) (s0 + 18) Q 1375 [(0, .ref b), (1, .ref (adr L 0 0 0)), (2, .ref (adr L 14 0 0)), (3, .ref (adr L 20 0 0)), (4, .int (iI i))] []) : V p l e room_1 s m args below meth c 9 L (HH L g) (c0) (s0) Q 1170 [(0, .ref b), (1, .ref (adr L 0 0 0)), (2, .ref (adr L 14 0 0)), (3, .ref (adr L 20 0 0)), (4, .int (iI i))] [] := by
  refine v_aload_n (pc := 1170) C 1 rfl rfl dL_law_1170 ?_
  refine v_aload_n (pc := 1171) C 0 rfl rfl dL_law_1171 ?_
  refine v_iload (pc := 1172) C 4 rfl dL_law_1172 ?_
  refine v_iconst (pc := 1174) C dL_law_1174 ?_
  refine v_iadd (pc := 1175) C dL_law_1175 ?_
  refine v_sld (pc := 1176) C hX hb hbA (a := i + 1) ⟨by omega, by omega⟩ (by omega) dL_law_1176 ?_
  refine v_aload_n (pc := 1177) C 0 rfl rfl dL_law_1177 ?_
  refine v_iload (pc := 1178) C 4 rfl dL_law_1178 ?_
  refine v_iconst (pc := 1180) C dL_law_1180 ?_
  refine v_iadd (pc := 1181) C dL_law_1181 ?_
  refine v_sld (pc := 1182) C hX hb hbA (a := i + 2) ⟨by omega, by omega⟩ (by omega) dL_law_1182 ?_
  refine v_aload_n (pc := 1183) C 3 rfl rfl dL_law_1183 ?_
  refine v_calliH (pc := 1184) C cwh_wouldClash (ct_L_wouldClash l L hfl g n (sx xs (i + 1)) (sx xs (i + 2)) hI (sx_rg xs _) (sx_rg xs _)) ⟨Nat.le_of_ble_eq_true rfl, Nat.le_of_ble_eq_true rfl⟩ rfl (Nat.le_of_ble_eq_true rfl) ⟨by show c0 + 2 ≤ 622385; omega, by show s0 + 12 ≤ 7228948; omega⟩ rfl dL_law_1184 (fun r9 u hP => ?_)
  have hf := fu_wouldClash hI hP
  obtain ⟨mw, m3, m6, mb, mc, ms, mk⟩ := MI_of hI hn hf
  refine v_istore (pc := 1187) C [(5, .int r9), (0, .ref b), (1, .ref (adr L 0 0 0)), (2, .ref (adr L 14 0 0)), (3, .ref (adr L 20 0 0)), (4, .int (iI i))] (by decide) rfl dL_law_1187 ?_
  refine v_aload_n (pc := 1189) C 3 rfl rfl dL_law_1189 ?_
  refine v_aload_n (pc := 1190) C 1 rfl rfl dL_law_1190 ?_
  refine v_iload (pc := 1191) C 5 rfl dL_law_1191 ?_
  refine v_iconst (pc := 1193) C dL_law_1193 ?_
  refine v_iadd (pc := 1194) C dL_law_1194 ?_
  refine v_sld (pc := 1195) C hX hb hbA (a := i + 1) ⟨by omega, by omega⟩ (by omega) dL_law_1195 ?_
  refine v_aload_n (pc := 1196) C 1 rfl rfl dL_law_1196 ?_
  refine v_iload (pc := 1197) C 5 rfl dL_law_1197 ?_
  refine v_iconst (pc := 1199) C dL_law_1199 ?_
  refine v_iadd (pc := 1200) C dL_law_1200 ?_
  refine v_sld (pc := 1201) C hX hb hbA (a := i + 2) ⟨by omega, by omega⟩ (by omega) dL_law_1201 ?_
  refine v_calliV (pc := 1202) C cw_RL_144 rcv_14 (ct_X7_wouldClash l L u 1 (sx xs (i + 1)) (sx xs (i + 2)) mw (by decide) (sx_rg xs _) (sx_rg xs _)) ⟨Nat.le_of_ble_eq_true rfl, Nat.le_of_ble_eq_true rfl⟩ rfl (Nat.le_of_ble_eq_true rfl) ⟨by show c0 + 2 + 0 ≤ 622385; omega, by show s0 + 12 + 0 ≤ 7228948; omega⟩ rfl dL_law_1202 (fun rb v hM => ?_)
  obtain ⟨k, hk, hrk, hv0, hv20, hIv⟩ := st_wouldClash hI hP hM
  subst hk
  refine v_istore (pc := 1205) C [(6, .int rb), (5, .int (iI k)), (0, .ref b), (1, .ref (adr L 0 0 0)), (2, .ref (adr L 14 0 0)), (3, .ref (adr L 20 0 0)), (4, .int (iI i))] (by decide) rfl dL_law_1205 ?_
  refine v_aload_n (pc := 1207) C 4 rfl rfl dL_law_1207 ?_
  refine v_calliV (pc := 1208) C cw_RL_83 rcv_14 (ct_X7_thrown l L v) ⟨Nat.le_of_ble_eq_true rfl, Nat.le_of_ble_eq_true rfl⟩ rfl (Nat.le_of_ble_eq_true rfl) ⟨by show c0 + 2 + 0 + 0 ≤ 622385; omega, by show s0 + 12 + 0 + 0 ≤ 7228948; omega⟩ rfl dL_law_1208 (fun r8 v8 h8 => ?_)
  obtain ⟨h8, h9⟩ := h8
  rw [h8, h9, hv0]
  refine v_iload (pc := 1211) C 1 rfl dL_law_1211 ?_
  refine v_icmp_eq (pc := 1213) C 1218 hrk hrk (by decide) dL_law_1213 (fun _ => ?_) (fun h => absurd rfl h)
  refine v_iload (pc := 1218) C 1 rfl dL_law_1218 ?_
  refine v_if_ne (pc := 1220) C 1235 hrk (by decide) dL_law_1220 (fun hk0 => ?_) (fun hk0 => ?_)
  · skip
    refine v_goto (pc := 1235) C 1375 (by decide) dL_law_1235 ?_
    refine v_widen (k := c0 + 3) (n := s0 + 18) (by omega) (by omega) ?_
    exact v_lsub [2, 3, 4, 5, 6] rfl (kend v hIv)
  · skip
    refine v_aload_n (pc := 1223) C 5 rfl rfl dL_law_1223 ?_
    refine v_iconst (pc := 1224) C dL_law_1224 ?_
    refine al_20 (pc := 1225) C (by decide) dL_law_1225 rb.toInt (hv20 (Decidable.not_not.mp hk0)) ?_
    refine v_iload (pc := 1226) C 0 rfl dL_law_1226 ?_
    refine v_i2lw (pc := 1228) C dL_law_1228 ?_
    refine v_lcmpE (pc := 1229) C dL_law_1229 ?_
    refine v_if_eq (pc := 1230) C 1235 (by decide) (by decide) dL_law_1230 (fun _ => ?_) (fun h => absurd rfl h)
    refine v_goto (pc := 1235) C 1375 (by decide) dL_law_1235 ?_
    refine v_widen (k := c0 + 3) (n := s0 + 18) (by omega) (by omega) ?_
    exact v_lsub [2, 3, 4, 5, 6] rfl (kend v hIv)
set_option maxHeartbeats 4000000 in
set_option maxRecDepth 100000 in
theorem lc_callIn {p : Program} {l : Launch} {e : Env} {s : State} {m : MethodId} {args : Array Value} {below : List Frame} {meth : Method} {c : Code} {L : Lay} {b Lx : Nat} {xs : Nat → Int32} {Q : State → Prop} {g : St} {n i : Int} {c0 s0 : Nat} (hfl : l.flags = flags0) (C : Cx p s m args c cL_law 9 RL L) (hX : va_X b Lx xs s s.heap) (hb : b < s.heap.size) (hbA : ¬ Af L b) (hi : 0 ≤ i ∧ i + 3 < Lx) (hLx : Lx ≤ 2048) (hI : INV g n) (hn : n ≤ 40000) (hc : c0 + 3 ≤ 622385) (hs : s0 + 18 ≤ 7228948) (kend : ∀ v : St, INV v (n + 60) → V p l e room_1 s m args below meth c 9 L (HH L v) (c0 + 3) (s0 + 18) Q 1375 [(0, .ref b), (1, .ref (adr L 0 0 0)), (2, .ref (adr L 14 0 0)), (3, .ref (adr L 20 0 0)), (4, .int (iI i))] []) : V p l e room_1 s m args below meth c 9 L (HH L g) (c0) (s0) Q 1238 [(0, .ref b), (1, .ref (adr L 0 0 0)), (2, .ref (adr L 14 0 0)), (3, .ref (adr L 20 0 0)), (4, .int (iI i))] [] := by
  refine v_aload_n (pc := 1238) C 1 rfl rfl dL_law_1238 ?_
  refine v_aload_n (pc := 1239) C 0 rfl rfl dL_law_1239 ?_
  refine v_iload (pc := 1240) C 4 rfl dL_law_1240 ?_
  refine v_iconst (pc := 1242) C dL_law_1242 ?_
  refine v_iadd (pc := 1243) C dL_law_1243 ?_
  refine v_sld (pc := 1244) C hX hb hbA (a := i + 1) ⟨by omega, by omega⟩ (by omega) dL_law_1244 ?_
  refine v_aload_n (pc := 1245) C 3 rfl rfl dL_law_1245 ?_
  refine v_calliH (pc := 1246) C cwh_callIn (ct_L_callIn l L hfl g n (sx xs (i + 1)) hI (sx_rg xs _)) ⟨Nat.le_of_ble_eq_true rfl, Nat.le_of_ble_eq_true rfl⟩ rfl (Nat.le_of_ble_eq_true rfl) ⟨by show c0 + 1 ≤ 622385; omega, by show s0 + 6 ≤ 7228948; omega⟩ rfl dL_law_1246 (fun r9 u hP => ?_)
  have hf := fu_callIn hI hP
  obtain ⟨mw, m3, m6, mb, mc, ms, mk⟩ := MI_of hI hn hf
  refine v_istore (pc := 1249) C [(5, .int r9), (0, .ref b), (1, .ref (adr L 0 0 0)), (2, .ref (adr L 14 0 0)), (3, .ref (adr L 20 0 0)), (4, .int (iI i))] (by decide) rfl dL_law_1249 ?_
  refine v_aload_n (pc := 1251) C 3 rfl rfl dL_law_1251 ?_
  refine v_aload_n (pc := 1252) C 1 rfl rfl dL_law_1252 ?_
  refine v_iload (pc := 1253) C 5 rfl dL_law_1253 ?_
  refine v_iconst (pc := 1255) C dL_law_1255 ?_
  refine v_iadd (pc := 1256) C dL_law_1256 ?_
  refine v_sld (pc := 1257) C hX hb hbA (a := i + 1) ⟨by omega, by omega⟩ (by omega) dL_law_1257 ?_
  refine v_calliV (pc := 1258) C cw_RL_147 rcv_14 (ct_X7_callIn l L u 1 (sx xs (i + 1)) mw (by decide) (sx_rg xs _)) ⟨Nat.le_of_ble_eq_true rfl, Nat.le_of_ble_eq_true rfl⟩ rfl (Nat.le_of_ble_eq_true rfl) ⟨by show c0 + 1 + 0 ≤ 622385; omega, by show s0 + 6 + 0 ≤ 7228948; omega⟩ rfl dL_law_1258 (fun rb v hM => ?_)
  obtain ⟨k, hk, hrk, hv0, hv20, hIv⟩ := st_callIn hI hP hM
  subst hk
  refine v_istore (pc := 1261) C [(6, .int rb), (5, .int (iI k)), (0, .ref b), (1, .ref (adr L 0 0 0)), (2, .ref (adr L 14 0 0)), (3, .ref (adr L 20 0 0)), (4, .int (iI i))] (by decide) rfl dL_law_1261 ?_
  refine v_aload_n (pc := 1263) C 4 rfl rfl dL_law_1263 ?_
  refine v_calliV (pc := 1264) C cw_RL_83 rcv_14 (ct_X7_thrown l L v) ⟨Nat.le_of_ble_eq_true rfl, Nat.le_of_ble_eq_true rfl⟩ rfl (Nat.le_of_ble_eq_true rfl) ⟨by show c0 + 1 + 0 + 0 ≤ 622385; omega, by show s0 + 6 + 0 + 0 ≤ 7228948; omega⟩ rfl dL_law_1264 (fun r8 v8 h8 => ?_)
  obtain ⟨h8, h9⟩ := h8
  rw [h8, h9, hv0]
  refine v_iload (pc := 1267) C 1 rfl dL_law_1267 ?_
  refine v_icmp_eq (pc := 1269) C 1274 hrk hrk (by decide) dL_law_1269 (fun _ => ?_) (fun h => absurd rfl h)
  refine v_iload (pc := 1274) C 1 rfl dL_law_1274 ?_
  refine v_if_ne (pc := 1276) C 1291 hrk (by decide) dL_law_1276 (fun hk0 => ?_) (fun hk0 => ?_)
  · skip
    refine v_goto (pc := 1291) C 1375 (by decide) dL_law_1291 ?_
    refine v_widen (k := c0 + 3) (n := s0 + 18) (by omega) (by omega) ?_
    exact v_lsub [2, 3, 4, 5, 6] rfl (kend v hIv)
  · skip
    refine v_aload_n (pc := 1279) C 5 rfl rfl dL_law_1279 ?_
    refine v_iconst (pc := 1280) C dL_law_1280 ?_
    refine al_20 (pc := 1281) C (by decide) dL_law_1281 rb.toInt (hv20 (Decidable.not_not.mp hk0)) ?_
    refine v_iload (pc := 1282) C 0 rfl dL_law_1282 ?_
    refine v_i2lw (pc := 1284) C dL_law_1284 ?_
    refine v_lcmpE (pc := 1285) C dL_law_1285 ?_
    refine v_if_eq (pc := 1286) C 1291 (by decide) (by decide) dL_law_1286 (fun _ => ?_) (fun h => absurd rfl h)
    refine v_goto (pc := 1291) C 1375 (by decide) dL_law_1291 ?_
    refine v_widen (k := c0 + 3) (n := s0 + 18) (by omega) (by omega) ?_
    exact v_lsub [2, 3, 4, 5, 6] rfl (kend v hIv)
set_option maxHeartbeats 4000000 in
set_option maxRecDepth 100000 in
theorem lc_quietIn {p : Program} {l : Launch} {e : Env} {s : State} {m : MethodId} {args : Array Value} {below : List Frame} {meth : Method} {c : Code} {L : Lay} {b Lx : Nat} {xs : Nat → Int32} {Q : State → Prop} {g : St} {n i : Int} {c0 s0 : Nat} (hfl : l.flags = flags0) (C : Cx p s m args c cL_law 9 RL L) (hX : va_X b Lx xs s s.heap) (hb : b < s.heap.size) (hbA : ¬ Af L b) (hi : 0 ≤ i ∧ i + 3 < Lx) (hLx : Lx ≤ 2048) (hI : INV g n) (hn : n ≤ 40000) (hc : c0 + 3 ≤ 622385) (hs : s0 + 18 ≤ 7228948) (kend : ∀ v : St, INV v (n + 60) → V p l e room_1 s m args below meth c 9 L (HH L v) (c0 + 3) (s0 + 18) Q 1375 [(0, .ref b), (1, .ref (adr L 0 0 0)), (2, .ref (adr L 14 0 0)), (3, .ref (adr L 20 0 0)), (4, .int (iI i))] []) : V p l e room_1 s m args below meth c 9 L (HH L g) (c0) (s0) Q 1294 [(0, .ref b), (1, .ref (adr L 0 0 0)), (2, .ref (adr L 14 0 0)), (3, .ref (adr L 20 0 0)), (4, .int (iI i))] [] := by
  refine v_aload_n (pc := 1294) C 1 rfl rfl dL_law_1294 ?_
  refine v_calliV (pc := 1295) C cw_RL_148 rcv_0 (ct_X6_quietIn l L g (INV_wf hI)) ⟨Nat.le_of_ble_eq_true rfl, Nat.le_of_ble_eq_true rfl⟩ rfl (Nat.le_of_ble_eq_true rfl) ⟨by show c0 + 0 ≤ 622385; omega, by show s0 + 0 ≤ 7228948; omega⟩ rfl dL_law_1295 (fun r9 u9 hP => ?_)
  obtain ⟨hP, hPb⟩ := hP
  rw [hP, hPb]
  clear hP hPb r9 u9
  have hf : ∀ f : Nat, 14 ≤ f → f ≤ 19 → g f = g f := fun f a1 b1 => rfl
  obtain ⟨mw, m3, m6, mb, mc, ms, mk⟩ := MI_of hI hn hf
  refine v_aload_n (pc := 1298) C 2 rfl rfl dL_law_1298 ?_
  refine v_calliV (pc := 1299) C cw_RL_151 rcv_14 (ct_X7_quietIn l L g 1 mw (by decide)) ⟨Nat.le_of_ble_eq_true rfl, Nat.le_of_ble_eq_true rfl⟩ rfl (Nat.le_of_ble_eq_true rfl) ⟨by show c0 + 0 + 0 ≤ 622385; omega, by show s0 + 0 + 0 ≤ 7228948; omega⟩ rfl dL_law_1299 (fun r9 v hP => ?_)
  obtain ⟨hr, hv⟩ := hP
  have o := op_quiet hI (fun f _ => rfl) hv rfl
  rw [hr, ← o.2]
  refine v_icmp_eq (pc := 1302) C 1375 (qui_rg (INV_wf hI) (by decide)) (qui_rg (INV_wf hI) (by decide)) (by decide) dL_law_1302 (fun _ => ?_) (fun h => absurd rfl h)
  exact v_widen (k := c0 + 3) (n := s0 + 18) (by omega) (by omega) (kend v o.1.1)
set_option maxHeartbeats 4000000 in
set_option maxRecDepth 100000 in
theorem lc_best {p : Program} {l : Launch} {e : Env} {s : State} {m : MethodId} {args : Array Value} {below : List Frame} {meth : Method} {c : Code} {L : Lay} {b Lx : Nat} {xs : Nat → Int32} {Q : State → Prop} {g : St} {n i : Int} {c0 s0 : Nat} (hfl : l.flags = flags0) (C : Cx p s m args c cL_law 9 RL L) (hX : va_X b Lx xs s s.heap) (hb : b < s.heap.size) (hbA : ¬ Af L b) (hi : 0 ≤ i ∧ i + 3 < Lx) (hLx : Lx ≤ 2048) (hI : INV g n) (hn : n ≤ 40000) (hc : c0 + 3 ≤ 622385) (hs : s0 + 18 ≤ 7228948) (kend : ∀ v : St, INV v (n + 60) → V p l e room_1 s m args below meth c 9 L (HH L v) (c0 + 3) (s0 + 18) Q 1375 [(0, .ref b), (1, .ref (adr L 0 0 0)), (2, .ref (adr L 14 0 0)), (3, .ref (adr L 20 0 0)), (4, .int (iI i))] []) : V p l e room_1 s m args below meth c 9 L (HH L g) (c0) (s0) Q 1307 [(0, .ref b), (1, .ref (adr L 0 0 0)), (2, .ref (adr L 14 0 0)), (3, .ref (adr L 20 0 0)), (4, .int (iI i))] [] := by
  refine v_aload_n (pc := 1307) C 1 rfl rfl dL_law_1307 ?_
  refine v_calliV (pc := 1308) C cw_RL_152 rcv_0 (ct_X6_best l L g (INV_ctr hI hn)) ⟨Nat.le_of_ble_eq_true rfl, Nat.le_of_ble_eq_true rfl⟩ rfl (Nat.le_of_ble_eq_true rfl) ⟨by show c0 + 0 ≤ 622385; omega, by show s0 + 0 ≤ 7228948; omega⟩ rfl dL_law_1308 (fun r9 u9 hP => ?_)
  obtain ⟨hP, hPb⟩ := hP
  rw [hP, hPb]
  clear hP hPb r9 u9
  have hf : ∀ f : Nat, 14 ≤ f → f ≤ 19 → g f = g f := fun f a1 b1 => rfl
  obtain ⟨mw, m3, m6, mb, mc, ms, mk⟩ := MI_of hI hn hf
  refine v_aload_n (pc := 1311) C 2 rfl rfl dL_law_1311 ?_
  refine v_calliV (pc := 1312) C cw_RL_155 rcv_14 (ct_X7_best l L g mc) ⟨Nat.le_of_ble_eq_true rfl, Nat.le_of_ble_eq_true rfl⟩ rfl (Nat.le_of_ble_eq_true rfl) ⟨by show c0 + 0 + 0 ≤ 622385; omega, by show s0 + 0 + 0 ≤ 7228948; omega⟩ rfl dL_law_1312 (fun r9 v hP => ?_)
  obtain ⟨hr, hv⟩ := hP
  have o := op_best hI (fun f _ => rfl) hv rfl
  rw [hr, ← o.2]
  refine v_icmp_eq (pc := 1315) C 1375 (INV_bst g) (INV_bst g) (by decide) dL_law_1315 (fun _ => ?_) (fun h => absurd rfl h)
  exact v_widen (k := c0 + 3) (n := s0 + 18) (by omega) (by omega) (kend v o.1.1)
set_option maxHeartbeats 4000000 in
set_option maxRecDepth 100000 in
theorem lc_answeredShare {p : Program} {l : Launch} {e : Env} {s : State} {m : MethodId} {args : Array Value} {below : List Frame} {meth : Method} {c : Code} {L : Lay} {b Lx : Nat} {xs : Nat → Int32} {Q : State → Prop} {g : St} {n i : Int} {c0 s0 : Nat} (hfl : l.flags = flags0) (C : Cx p s m args c cL_law 9 RL L) (hX : va_X b Lx xs s s.heap) (hb : b < s.heap.size) (hbA : ¬ Af L b) (hi : 0 ≤ i ∧ i + 3 < Lx) (hLx : Lx ≤ 2048) (hI : INV g n) (hn : n ≤ 40000) (hc : c0 + 3 ≤ 622385) (hs : s0 + 18 ≤ 7228948) (kend : ∀ v : St, INV v (n + 60) → V p l e room_1 s m args below meth c 9 L (HH L v) (c0 + 3) (s0 + 18) Q 1375 [(0, .ref b), (1, .ref (adr L 0 0 0)), (2, .ref (adr L 14 0 0)), (3, .ref (adr L 20 0 0)), (4, .int (iI i))] []) : V p l e room_1 s m args below meth c 9 L (HH L g) (c0) (s0) Q 1320 [(0, .ref b), (1, .ref (adr L 0 0 0)), (2, .ref (adr L 14 0 0)), (3, .ref (adr L 20 0 0)), (4, .int (iI i))] [] := by
  refine v_aload_n (pc := 1320) C 1 rfl rfl dL_law_1320 ?_
  refine v_calldV (pc := 1321) C cw_RL_156 rcv_0 (ct_X6_answeredShare l L g (INV_wf hI) (INV_ctr hI hn)) ⟨Nat.le_of_ble_eq_true rfl, Nat.le_of_ble_eq_true rfl⟩ rfl (Nat.le_of_ble_eq_true rfl) ⟨by show c0 + 0 ≤ 622385; omega, by show s0 + 0 ≤ 7228948; omega⟩ rfl dL_law_1321 (fun r9 u9 hP => ?_)
  obtain ⟨hP, hPb⟩ := hP
  rw [hP, hPb]
  clear hP hPb r9 u9
  have hf : ∀ f : Nat, 14 ≤ f → f ≤ 19 → g f = g f := fun f a1 b1 => rfl
  obtain ⟨mw, m3, m6, mb, mc, ms, mk⟩ := MI_of hI hn hf
  refine v_dstore (pc := 1324) C [(5, .double (shK g 0)), (0, .ref b), (1, .ref (adr L 0 0 0)), (2, .ref (adr L 14 0 0)), (3, .ref (adr L 20 0 0)), (4, .int (iI i))] (by decide) rfl dL_law_1324 ?_
  refine v_aload_n (pc := 1326) C 3 rfl rfl dL_law_1326 ?_
  refine v_calldV (pc := 1327) C cw_RL_160 rcv_14 (ct_X7_answeredShare l L g (ms 3 (by decide) (by decide)) (ms 4 (by decide) (by decide)) (ms 5 (by decide) (by decide))) ⟨Nat.le_of_ble_eq_true rfl, Nat.le_of_ble_eq_true rfl⟩ rfl (Nat.le_of_ble_eq_true rfl) ⟨by show c0 + 0 + 0 ≤ 622385; omega, by show s0 + 0 + 0 ≤ 7228948; omega⟩ rfl dL_law_1327 (fun r9 v hP => ?_)
  obtain ⟨hr, hv⟩ := hP
  have o := op_share hI (fun f _ => rfl) hv rfl
  rw [hr, ← o.2]
  refine v_dstore (pc := 1330) C [(7, .double (shK g 0)), (5, .double (shK g 0)), (0, .ref b), (1, .ref (adr L 0 0 0)), (2, .ref (adr L 14 0 0)), (3, .ref (adr L 20 0 0)), (4, .int (iI i))] (by decide) rfl dL_law_1330 ?_
  refine v_dload (pc := 1332) C 1 rfl dL_law_1332 ?_
  refine v_dload (pc := 1334) C 0 rfl dL_law_1334 ?_
  refine v_dcmp (pc := 1336) (z := 0) C (by (have e9 : FP.dcmp (shK g 0) (shK g 0) = some .eq := FP.Core.dcmp_self (INV_shn hI hn)); rw [e9]; rfl) dL_law_1336 ?_
  refine v_if_eq (pc := 1337) C 1358 (by decide) (by decide) dL_law_1337 (fun _ => ?_) (fun h => absurd rfl h)
  refine v_goto (pc := 1358) C 1375 (by decide) dL_law_1358 ?_
  refine v_widen (k := c0 + 3) (n := s0 + 18) (by omega) (by omega) ?_
  exact v_lsub [2, 3, 4, 5, 6] rfl (kend v o.1.1)
set_option maxHeartbeats 4000000 in
set_option maxRecDepth 100000 in
theorem lc_digest {p : Program} {l : Launch} {e : Env} {s : State} {m : MethodId} {args : Array Value} {below : List Frame} {meth : Method} {c : Code} {L : Lay} {b Lx : Nat} {xs : Nat → Int32} {Q : State → Prop} {g : St} {n i : Int} {c0 s0 : Nat} (hfl : l.flags = flags0) (C : Cx p s m args c cL_law 9 RL L) (hX : va_X b Lx xs s s.heap) (hb : b < s.heap.size) (hbA : ¬ Af L b) (hi : 0 ≤ i ∧ i + 3 < Lx) (hLx : Lx ≤ 2048) (hI : INV g n) (hn : n ≤ 40000) (hc : c0 + 3 ≤ 622385) (hs : s0 + 18 ≤ 7228948) (kend : ∀ v : St, INV v (n + 60) → V p l e room_1 s m args below meth c 9 L (HH L v) (c0 + 3) (s0 + 18) Q 1375 [(0, .ref b), (1, .ref (adr L 0 0 0)), (2, .ref (adr L 14 0 0)), (3, .ref (adr L 20 0 0)), (4, .int (iI i))] []) : V p l e room_1 s m args below meth c 9 L (HH L g) (c0) (s0) Q 1361 [(0, .ref b), (1, .ref (adr L 0 0 0)), (2, .ref (adr L 14 0 0)), (3, .ref (adr L 20 0 0)), (4, .int (iI i))] [] := by
  refine v_aload_n (pc := 1361) C 1 rfl rfl dL_law_1361 ?_
  refine v_calllV (pc := 1362) C cw_RL_161 rcv_0 (ct_X6_digest l L g (INV_wf hI) (INV_ctr hI hn) hI.2.2.1 hI.1.1 (INV_rf hI hn) (INV_kp hI)) ⟨Nat.le_of_ble_eq_true rfl, Nat.le_of_ble_eq_true rfl⟩ rfl (Nat.le_of_ble_eq_true rfl) ⟨by show c0 + 0 ≤ 622385; omega, by show s0 + 0 ≤ 7228948; omega⟩ rfl dL_law_1362 (fun r9 u9 hP => ?_)
  obtain ⟨hP, hPb⟩ := hP
  rw [hP, hPb]
  clear hP hPb r9 u9
  have hf : ∀ f : Nat, 14 ≤ f → f ≤ 19 → (sbG g 50) f = g f := fun f a1 b1 => sbG_f g 50 (by omega)
  obtain ⟨mw, m3, m6, mb, mc, ms, mk⟩ := MI_of hI hn hf
  refine v_aload_n (pc := 1365) C 2 rfl rfl dL_law_1365 ?_
  refine v_calllV (pc := 1366) C cw_RL_165 rcv_14 (ct_X7_digest l L (sbG g 50) 1 mw (by decide) mc m3 mb (ms 3 (by decide) (by decide)) (ms 4 (by decide) (by decide)) (ms 5 (by decide) (by decide)) mk) ⟨Nat.le_of_ble_eq_true rfl, Nat.le_of_ble_eq_true rfl⟩ rfl (Nat.le_of_ble_eq_true rfl) ⟨by show c0 + 0 + 0 ≤ 622385; omega, by show s0 + 0 + 0 ≤ 7228948; omega⟩ rfl dL_law_1366 (fun r9 v hP => ?_)
  obtain ⟨z, hr, hfd, hz⟩ := hP
  have o := op_digest hI (fun f _ => rfl) hfd
  rw [hr, ← o.2 hz]
  refine v_lcmpE (pc := 1369) C dL_law_1369 ?_
  refine v_if_eq (pc := 1370) C 1375 (by decide) (by decide) dL_law_1370 (fun _ => ?_) (fun h => absurd rfl h)
  exact v_widen (k := c0 + 3) (n := s0 + 18) (by omega) (by omega) (kend v o.1.1)
