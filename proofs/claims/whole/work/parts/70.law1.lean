/-! the law's helpers: a call that may throw, and what catches it -/
theorem m_ofWH {l : Launch} {y : MethodName} {ws ws' : List Cond} {rm : Room} {Pc : Array Value → State → Prop} {Qc : Array Value → State → Outcome → State → Prop} {mc ms : Nat} {free : Addr → Prop} {cc : ByteArray} {maxL : Nat} {ret : Option FieldType} {hh : List (Nat × Nat × Nat × Nat)}
    (hy : plainName y.cls = true) (hw : ws = Cond.codeWith y cc maxL ret hh :: ws')
    (body : ∀ p e s m args below meth c s₁, BodyLoose p l y (headSpec ws rm) cc maxL ret e s m args below meth c s₁ → c.maxLocals = maxL → Pc args s →
      W p l e (headSpec ws rm).room s m args below meth c s.heap [] 0 0 (MQ below Qc args s mc ms free) (entryFrame m args maxL)) : Met l y ws rm Pc Qc mc ms free := by
  refine MetFree.of_bodyS (code := cc) (maxLocals := maxL) (ret := ret) hy ?_ ?_
  · intro args s m h hn
    obtain ⟨m9, meth, c, hn9, h1, h2, h3, h4, -, h5, h6, -⟩ := Cond.codeWith_spec (atoms_spec (ws := ws) h _ (by rw [hw]; exact List.mem_cons_self))
    cases hn.symm.trans hn9
    exact ⟨meth, c, h1, h2, h3, h4, h5, h6⟩
  · intro p e s m args below meth c s₁ B hml hP _
    have hh0 : s₁.heap = s.heap := by rw [B.state]; rfl
    obtain ⟨t, a1, o, b1, b2, b3⟩ := body p e s m args below meth c s₁ B hml hP s₁ hh0 (Stand.of_body B)
    exact ⟨t, o, a1, b1, b2, ⟨b3.1, b3.2⟩⟩
theorem ct_mkH {l : Launch} {y : MethodName} {cc : ByteArray} {maxL : Nat} {ret : Option FieldType} {hh : List (Nat × Nat × Nat × Nat)} {rm : Room} {As : List Value} {L : Lay} {g : St} {Qc : Array Value → State → Outcome → State → Prop} {mc ms : Nat} (hy : plainName y.cls = true) (hlen : (lg_sl As).length ≤ maxL)
    (body : ∀ (p : Program) (e : Env) (s : State) (m : MethodId) (below : List Frame) (meth : Method) (c : Code), Cx p s m As.toArray c cc maxL y.cls L → meth.sig.returnType = ret → meth.locks = false → c.exceptionTable.toList = tableOf hh → V p l e rm s m As.toArray below meth c maxL L (HH L g) 0 0 (MQ below Qc As.toArray s mc ms (Af L)) 0 (lv_args 0 As) []) :
    Met l y (.codeWith y cc maxL ret hh :: wsL_law) rm (va_Pc As (HS L g)) Qc mc ms (Af L) := by
  refine m_ofWH (cc := cc) (maxL := maxL) (ret := ret) (hh := hh) hy rfl ?_
  intro p e s m args below meth c s₁ B hml hv
  obtain ⟨rfl, hH, hSm⟩ := hv
  have hts := atoms_spec (ws := .codeWith y cc maxL ret hh :: wsL_law) B.pre
  have htab := vx_table (x := y) B (hts _ List.mem_cons_self)
  have hown : s.vm.findClass y.cls = some m.cls := findClass_of_methodNamed B.named
  have hl := lv_entry As (n := maxL) hlen
  rw [lg_entry_eq]
  exact body p e s m below meth c ⟨B.exec, B.bytes, hml, hown, fun w h => hts w (List.mem_cons_of_mem _ h), hSm⟩ B.returns B.notSynchronized htab s.heap [] _ hH va_S.rf hl
section VH
variable {p : Program} {l : Launch} {e : Env} {R : Room} {s : State} {m : MethodId} {args : Array Value} {below : List Frame} {meth : Method} {c : Code} {cells slots : Nat} {Q : State → Prop} {cc : ByteArray} {nL : Nat} {own : String} {L : Lay} {g : St} {pc : Nat} {lv : List (Nat × Value)} {st : List Value}
variable {ix n maxL fr lo mc ms : Nat} {Cn : String} {y : MethodName} {bytes : ByteArray} {ret : Option FieldType} {rm : Room}
theorem v_tryi (C : Cx p s m args c cc nL own L) {P : Int32 → St → Prop} {Ex : String → Prop} {As st0 : List Value} (w : CW own ix Cn y bytes maxL ret n) {f : Nat} {k j : Int} (hr : Rcv L g f k j Cn) (hM : vx_Met l y (.code y bytes maxL ret :: wsL_law) { frames := fr, cells := mc, slots := ms, locals := lo } (va_Pc (.ref (adr L f k j) :: As) (HS L g)) (va_Qi P (fun u t => HS L u t) (Af L)) (XX L g Ex) mc ms (Af L)) (hR : fr + 1 ≤ R.frames ∧ 8 + (maxL + 11) + lo ≤ R.locals) (hn : As.length = n) (hst : (st.map fun v => v.category).sum ≤ 8) (hcs : cells + mc ≤ R.cells ∧ slots + ms ≤ R.slots) (h0 : st0 = As.reverse ++ .ref (adr L f k j) :: st) (hdg : decode cc pc = .ok (.invokevirtual ix, 3))
    (kx : ∀ E, Ex E → ∃ (pre : List ExceptionTableEntry) (x : ExceptionTableEntry) (suf : List ExceptionTableEntry), c.exceptionTable.toList = pre ++ x :: suf ∧ (∀ z ∈ pre, z.catchType ≠ 0 ∧ ∃ nm : String, Cond.classLink own z.catchType nm ∈ wsL_law ∧ nm ∈ exs ∧ E ≠ nm) ∧ covers x pc = true ∧ x.catchType ≠ 0 ∧ E ∈ exs ∧ Cond.classLink own x.catchType E ∈ wsL_law ∧ ∀ q : Nat, V p l e R s m args below meth c nL L (HH L g) (cells + mc) (slots + ms) Q x.handlerPc lv [.ref q])
    (kk : ∀ (r : Int32) (u : St), P r u → V p l e R s m args below meth c nL L (HH L u) (cells + mc) (slots + ms) Q (pc + 3) lv (.int r :: st)) : V p l e R s m args below meth c nL L (HH L g) cells slots Q pc lv st0 := by
  subst h0
  intro H locs ls hI hS hl
  exact vx_calli (vx_runV (As := As) (rest := st) (Ts := wsL_law) ⟨C.1, C.2.1, C.2.2.1, C.2.2.2.1, C.2.2.2.2.1⟩ hM (w.W C rfl rfl hR) ⟨HS.blind, hr.at C hI, pre_of C hI hS⟩ rfl hn hl.1 rfl (lv_room hst) hdg hcs) hS (fun _ _ h => h) (fun _ h => h) (fun _ _ h => h)
    (fun E ce q9 u t H1 locs1 ht hA hp hB _ _ hS1 hce hcv hcl => by
      obtain ⟨pre, x, suf, hsp, hps, hcov, h0, hE, hlk, kv⟩ := kx E hB.1
      obtain ⟨hx, hb, hml, hown, hts, hK, ⟨z1, -, hstr, hca, hnc, hdc⟩, hz⟩ := C
      refine vx_catch hown pre x suf hsp (fun z hz => ?_) hcov h0 (hts _ hlk) (va_Nw.use rfl (hca _ hE)) hce hcv hcl (kv q9 H1 locs1 ls (by rw [← ht]; exact hB.2) hS1 hl)
      obtain ⟨h1, nm, h2, h3, h4⟩ := hps z hz
      exact Or.inr ⟨h1, nm, hts _ h2, hnc _ hE _ h3 h4⟩)
    (fun r u t H1 locs1 ht hA hp hB _ _ hS1 => kk r u hp H1 locs1 ls (by rw [← ht]; exact hB.1) hS1 hl)
/-- how a helper is linked -/
def CWh (own : String) (ix : Nat) (y : MethodName) (bytes : ByteArray) (maxL : Nat) (ret : Option FieldType) (hh : List (Nat × Nat × Nat × Nat)) (n : Nat) : Prop :=
  Cond.methodLink own ix y ∈ wsL_law ∧ Cond.static y ∈ wsL_law ∧ Cond.initialized y.cls ∈ wsL_law ∧ Cond.codeWith y bytes maxL ret hh ∈ wsL_law ∧ (y.cls ≠ "java/lang/invoke/MethodHandle" ∧ y.cls ≠ "java/lang/invoke/VarHandle" ∧ (parseMethodDescriptor y.desc).map (fun d => d.parameters.length) = some n)
theorem CWh.W (C : Cx p s m args c cc nL own L) {hh : List (Nat × Nat × Nat × Nat)} (w : CWh own ix y bytes maxL ret hh n) (hrc : rm.cells = mc) (hrs : rm.slots = ms) (hR : rm.frames + 1 ≤ R.frames ∧ 8 + (maxL + 11) + rm.locals ≤ R.locals) : vx_CSW R s args own ix y bytes maxL ret hh (.codeWith y bytes maxL ret hh :: wsL_law) rm mc ms n := by
  obtain ⟨w1, w2, w3, w4, w5⟩ := w
  refine vx_cwSW n C.2.2.2.2.1 (fun w h => ?_) rfl hrc hrs w5 hR
  have hm : w ∈ wsL_law := by
    simp only [va_wsS, List.cons_append, List.nil_append, List.mem_cons] at h
    rcases h with rfl | rfl | rfl | rfl | h
    · exact w1
    · exact w2
    · exact w3
    · exact w4
    · exact h
  exact ⟨hm, gU w hm⟩
theorem v_calliH (C : Cx p s m args c cc nL own L) {hh : List (Nat × Nat × Nat × Nat)} {P : Int32 → St → Prop} {As st0 : List Value} (w : CWh own ix y bytes maxL ret hh n) (hM : Met l y (.codeWith y bytes maxL ret hh :: wsL_law) { frames := fr, cells := mc, slots := ms, locals := lo } (va_Pc As (HS L g)) (va_Qi P (fun u t => HS L u t) (Af L)) mc ms (Af L)) (hR : fr + 1 ≤ R.frames ∧ 8 + (maxL + 11) + lo ≤ R.locals) (hn : As.length = n) (hst : (st.map fun v => v.category).sum ≤ 8) (hcs : cells + mc ≤ R.cells ∧ slots + ms ≤ R.slots) (h0 : st0 = As.reverse ++ st) (hdg : decode cc pc = .ok (.invokestatic ix, 3)) (kk : ∀ (r : Int32) (u : St), P r u → V p l e R s m args below meth c nL L (HH L u) (cells + mc) (slots + ms) Q (pc + 3) lv (.int r :: st)) : V p l e R s m args below meth c nL L (HH L g) cells slots Q pc lv st0 := by
  subst h0
  intro H locs ls hI hS hl
  exact va_calli (vx_runSW (As := As) (rest := st) (Ts := wsL_law) ⟨C.1, C.2.1, C.2.2.1, C.2.2.2.1, C.2.2.2.2.1⟩ hM (w.W C rfl rfl hR) ⟨HS.blind, pre_of C hI hS⟩ rfl hn hl.1 rfl (lv_room hst) hdg hcs) hS (fun _ _ h => h) (fun _ h => h) (fun r u t H1 locs1 ht hA hp hB _ _ hS1 => kk r u hp H1 locs1 ls (by rw [← ht]; exact hB.1) hS1 hl)
theorem v_i2lw (C : Cx p s m args c cc nL own L) {r : Int32} (hdg : decode cc pc = .ok (.i2l, 1)) (k : V p l e R s m args below meth c nL L (HH L g) cells slots Q (pc + 1) lv (.long (lI r.toInt) :: st)) : V p l e R s m args below meth c nL L (HH L g) cells slots Q pc lv (.int r :: st) := by
  have h := v_i2l (a := r.toInt) C (iI_rg r) hdg k
  rw [iI_of] at h
  exact h
end VH
theorem INV_kp {g : St} {n : Int} (h : INV g n) : ∀ i, 0 ≤ i → i < 2 → g 11 0 0 i = 0 ∨ g 11 0 0 i = 1 := fun i a b => (h.2.2.2.2.2.2.1 i a b).2.imp id (fun r => r.1)
theorem cw_RL_7 : CW RL 7 RX6 yX6_call cX6_call 3 (some .int) 2 := ⟨u_4_15, u_4_16, u_4_17, u_1_2, u_4_18, by decide +kernel⟩
theorem cwh_call : CWh RL 77 yL_call cL_call 5 (some .int) [(0, 10, 13, 13), (0, 10, 17, 15)] 4 := ⟨u_4_9, u_4_10, u_4_11, u_4_12, by decide +kernel⟩
theorem cw_RL_17 : CW RL 17 RX6 yX6_walk cX6_walk 3 (some .int) 2 := ⟨u_10_9, u_10_10, u_10_11, u_1_2, u_10_12, by decide +kernel⟩
theorem cwh_walk : CWh RL 86 yL_walk cL_walk 5 (some .int) [(0, 10, 13, 13), (0, 10, 17, 15)] 4 := ⟨u_10_6, u_10_7, u_4_11, u_10_8, by decide +kernel⟩
theorem cw_RL_20 : CW RL 20 RX6 yX6_throwBall cX6_throwBall 5 (some .int) 3 := ⟨u_11_4, u_11_5, u_11_6, u_1_2, u_11_7, by decide +kernel⟩
theorem cwh_throwBall : CWh RL 89 yL_throwBall cL_throwBall 6 (some .int) [(0, 12, 15, 15)] 5 := ⟨u_11_1, u_11_2, u_4_11, u_11_3, by decide +kernel⟩
theorem cw_RL_24 : CW RL 24 RX6 yX6_set cX6_set 4 (some .int) 2 := ⟨u_11_21, u_11_22, u_11_23, u_1_2, u_12_0, by decide +kernel⟩
theorem cwh_set : CWh RL 93 yL_set cL_set 5 (some .int) [(0, 10, 13, 13), (0, 10, 17, 15), (0, 10, 21, 27)] 4 := ⟨u_11_17, u_11_18, u_4_11, u_11_19, by decide +kernel⟩
theorem cw_RL_29 : CW RL 29 RX6 yX6_pass cX6_pass 2 (some .int) 1 := ⟨u_13_1, u_13_2, u_13_3, u_1_2, u_13_4, by decide +kernel⟩
theorem cwh_pass : CWh RL 96 yL_pass cL_pass 4 (some .int) [(0, 9, 12, 15), (0, 9, 15, 27)] 3 := ⟨u_12_22, u_12_23, u_4_11, u_13_0, by decide +kernel⟩
theorem cw_RL_33 : CW RL 33 RX6 yX6_append cX6_append 2 (some .int) 1 := ⟨u_16_22, u_16_23, u_17_0, u_1_2, u_17_1, by decide +kernel⟩
theorem cwh_append : CWh RL 100 yL_append cL_append 4 (some .int) [(0, 9, 12, 15), (0, 9, 15, 27)] 3 := ⟨u_16_19, u_16_20, u_4_11, u_16_21, by decide +kernel⟩
theorem cw_RL_36 : CW RL 36 RX6 yX6_run cX6_run 3 (some .int) 0 := ⟨u_20_19, u_20_20, u_20_21, u_1_2, u_20_22, by decide +kernel⟩
theorem cwh_run : CWh RL 111 yL_run cL_run 3 (some .int) [(0, 8, 11, 15)] 2 := ⟨u_20_16, u_20_17, u_4_11, u_20_18, by decide +kernel⟩
theorem cw_RL_40 : CW RL 40 RX6 yX6_keep cX6_keep 2 (some .int) 1 := ⟨u_22_16, u_22_17, u_22_18, u_1_2, u_22_19, by decide +kernel⟩
theorem cwh_keep : CWh RL 115 yL_keep cL_keep 4 (some .int) [(0, 9, 12, 15)] 3 := ⟨u_22_13, u_22_14, u_4_11, u_22_15, by decide +kernel⟩
theorem cw_RL_43 : CW RL 43 RX6 yX6_goBack cX6_goBack 2 (some .int) 1 := ⟨u_23_5, u_23_6, u_23_7, u_1_2, u_23_8, by decide +kernel⟩
theorem cwh_goBack : CWh RL 118 yL_goBack cL_goBack 4 (some .int) [(0, 9, 12, 15), (0, 9, 15, 27)] 3 := ⟨u_23_2, u_23_3, u_4_11, u_23_4, by decide +kernel⟩
theorem cw_RL_46 : CW RL 46 RX6 yX6_undo cX6_undo 1 (some .int) 0 := ⟨u_23_16, u_23_17, u_23_18, u_1_2, u_23_19, by decide +kernel⟩
theorem cwh_undo : CWh RL 121 yL_undo cL_undo 3 (some .int) [(0, 8, 11, 27)] 2 := ⟨u_23_13, u_23_14, u_4_11, u_23_15, by decide +kernel⟩
theorem cw_RL_49 : CW RL 49 RX6 yX6_playerOf cX6_playerOf 3 (some .int) 2 := ⟨u_24_8, u_24_9, u_24_10, u_1_2, u_24_11, by decide +kernel⟩
theorem cwh_playerOf : CWh RL 124 yL_playerOf cL_playerOf 5 (some .int) [(0, 10, 13, 13), (0, 10, 17, 15)] 4 := ⟨u_24_5, u_24_6, u_4_11, u_24_7, by decide +kernel⟩
theorem cw_RL_52 : CW RL 52 RX6 yX6_echoOf cX6_echoOf 3 (some .int) 2 := ⟨u_25_3, u_25_4, u_25_5, u_1_2, u_25_6, by decide +kernel⟩
theorem cwh_echoOf : CWh RL 127 yL_echoOf cL_echoOf 5 (some .int) [(0, 10, 13, 15)] 4 := ⟨u_25_0, u_25_1, u_4_11, u_25_2, by decide +kernel⟩
theorem cw_RL_55 : CW RL 55 RX6 yX6_count cX6_count 2 (some .int) 1 := ⟨u_26_2, u_26_3, u_26_4, u_1_2, u_26_5, by decide +kernel⟩
theorem cwh_count : CWh RL 130 yL_count cL_count 4 (some .int) [(0, 9, 12, 15)] 3 := ⟨u_25_23, u_26_0, u_4_11, u_26_1, by decide +kernel⟩
theorem cw_RL_58 : CW RL 58 RX6 yX6_setting cX6_setting 2 (some .int) 1 := ⟨u_27_15, u_27_16, u_27_17, u_1_2, u_27_18, by decide +kernel⟩
theorem cwh_setting : CWh RL 133 yL_setting cL_setting 4 (some .int) [(0, 9, 12, 13)] 3 := ⟨u_27_12, u_27_13, u_4_11, u_27_14, by decide +kernel⟩
theorem cw_RL_61 : CW RL 61 RX6 yX6_ballIn cX6_ballIn 3 (some .int) 2 := ⟨u_28_2, u_28_3, u_28_4, u_1_2, u_28_5, by decide +kernel⟩
theorem cwh_ballIn : CWh RL 136 yL_ballIn cL_ballIn 5 (some .int) [(0, 10, 13, 15)] 4 := ⟨u_27_23, u_28_0, u_4_11, u_28_1, by decide +kernel⟩
theorem cw_RL_64 : CW RL 64 RX6 yX6_echoIn cX6_echoIn 3 (some .int) 2 := ⟨u_29_8, u_29_9, u_29_10, u_1_2, u_29_11, by decide +kernel⟩
theorem cwh_echoIn : CWh RL 139 yL_echoIn cL_echoIn 5 (some .int) [(0, 10, 13, 13), (0, 10, 17, 15)] 4 := ⟨u_29_5, u_29_6, u_4_11, u_29_7, by decide +kernel⟩
theorem cw_RL_67 : CW RL 67 RX6 yX6_wouldClash cX6_wouldClash 3 (some .int) 2 := ⟨u_30_2, u_30_3, u_30_4, u_1_2, u_30_5, by decide +kernel⟩
theorem cwh_wouldClash : CWh RL 142 yL_wouldClash cL_wouldClash 5 (some .int) [(0, 10, 13, 13), (0, 10, 17, 15)] 4 := ⟨u_29_23, u_30_0, u_4_11, u_30_1, by decide +kernel⟩
theorem cw_RL_70 : CW RL 70 RX6 yX6_callIn cX6_callIn 2 (some .int) 1 := ⟨u_31_1, u_31_2, u_31_3, u_1_2, u_31_4, by decide +kernel⟩
theorem cwh_callIn : CWh RL 145 yL_callIn cL_callIn 4 (some .int) [(0, 9, 12, 13)] 3 := ⟨u_30_22, u_30_23, u_4_11, u_31_0, by decide +kernel⟩
set_option maxHeartbeats 4000000 in
set_option maxRecDepth 100000 in
theorem ct_L_call (l : Launch) (L : Lay) (hfl : l.flags = flags0) (g : St) (n p w : Int) (hI : INV g n) (hrp : rg p) (hrw : rg w) : Met l yL_call (.codeWith yL_call cL_call 5 (some .int) [(0, 10, 13, 13), (0, 10, 17, 15)] :: wsL_law) { frames := 8, cells := 2, slots := 12, locals := 134 } (va_Pc [.ref (adr L 0 0 0), .int (iI p), .int (iI w), .ref (adr L 20 0 0)] (HS L g)) (va_Qi (fun (r9 : Int32) (u : St) => (r9 = iI 0 ∧ ∃ (rr : Int32) (u0 : St), (fun (r9 : Int32) (u : St) => ∃ z : Int, r9 = iI z ∧ (((0 ≤ p ∧ p < 4) ∧ (0 ≤ w ∧ w ≤ 9)) ∧ se (svG g 0) u 0 p w z)) rr u0 ∧ u = up u0 20 0 0 0 rr.toInt) ∨ (r9 = iI 1 ∧ u = g ∧ (fun E => (E = eIX ∧ ¬ (0 ≤ p ∧ p < 4)) ∨ (E = eIA ∧ (0 ≤ p ∧ p < 4) ∧ ¬ (0 ≤ w ∧ w ≤ 9))) eIX) ∨ (r9 = iI 2 ∧ u = g ∧ (fun E => (E = eIX ∧ ¬ (0 ≤ p ∧ p < 4)) ∨ (E = eIA ∧ (0 ≤ p ∧ p < 4) ∧ ¬ (0 ≤ w ∧ w ≤ 9))) eIA)) (fun u t => HS L u t) (Af L)) 2 12 (Af L) := by
  refine ct_mkH (by decide +kernel) (Nat.le_of_ble_eq_true rfl) ?_
  intro pp ee ss mm bel mth cx C hr hlk htab
  show V pp l ee { frames := 8, cells := 2, slots := 12, locals := 134 } ss mm ([.ref (adr L 0 0 0), .int (iI p), .int (iI w), .ref (adr L 20 0 0)]).toArray bel mth cx 5 L (HH L g) 0 0 _ 0 [(0, .ref (adr L 0 0 0)), (1, .int (iI p)), (2, .int (iI w)), (3, .ref (adr L 20 0 0))] []
  refine v_aload_n (pc := 0) C 3 rfl rfl dL_call_0 ?_
  refine v_iconst (pc := 1) C dL_call_1 ?_
  refine v_aload_n (pc := 2) C 0 rfl rfl dL_call_2 ?_
  refine v_iload_n (pc := 3) C 1 rfl rfl dL_call_3 ?_
  refine v_iload_n (pc := 4) C 2 rfl rfl dL_call_4 ?_
  refine v_tryi (pc := 5) C cw_RL_7 rcv_0 (ct_X6_call l L hfl g p w hrp hrw hI.1 (INV_wA hI) (c6_room (INV_wf hI) (INV_c6 hI))) ⟨Nat.le_of_ble_eq_true rfl, Nat.le_of_ble_eq_true rfl⟩ rfl (Nat.le_of_ble_eq_true rfl) ⟨Nat.le_of_ble_eq_true rfl, Nat.le_of_ble_eq_true rfl⟩ rfl dL_call_5 (fun E hE => ?_) (fun rr u0 hP => ?_)
  · have hE0 := hE
    rcases hE0 with ⟨rfl, -⟩ | ⟨rfl, -⟩
    · skip
      refine ⟨[], ⟨0, 10, 13, 13⟩, [⟨0, 10, 17, 15⟩], htab, (fun z hz => absurd hz List.not_mem_nil), by decide, by decide, by decide, u_4_13, fun qx => ?_⟩
      refine v_astore (pc := 13) C [(4, .ref qx), (0, .ref (adr L 0 0 0)), (1, .int (iI p)), (2, .int (iI w)), (3, .ref (adr L 20 0 0))] (by decide) rfl dL_call_13 ?_
      refine v_iconst (pc := 15) C dL_call_15 ?_
      exact v_iret (pc := 16) C hr hlk (Or.inr (Or.inl ⟨rfl, rfl, hE⟩)) dL_call_16
    · skip
      refine ⟨[⟨0, 10, 13, 13⟩], ⟨0, 10, 17, 15⟩, [], htab, (fun z hz => ?_), by decide, by decide, by decide, u_4_14, fun qx => ?_⟩
      · skip
        simp only [List.mem_cons, List.not_mem_nil, or_false] at hz
        subst hz
        exact ⟨by decide, eIX, u_4_13, by decide, by decide⟩
      · skip
        refine v_astore (pc := 17) C [(4, .ref qx), (0, .ref (adr L 0 0 0)), (1, .int (iI p)), (2, .int (iI w)), (3, .ref (adr L 20 0 0))] (by decide) rfl dL_call_17 ?_
        refine v_iconst (pc := 19) C dL_call_19 ?_
        exact v_iret (pc := 20) C hr hlk (Or.inr (Or.inr (⟨rfl, rfl, hE⟩))) dL_call_20
  · refine v_i2lw (pc := 8) C dL_call_8 ?_
    refine as_20 (pc := 9) C (by decide) dL_call_9 ?_
    refine v_goto (pc := 10) C 21 (by decide) dL_call_10 ?_
    refine v_iconst (pc := 21) C dL_call_21 ?_
    exact v_iret (pc := 22) C hr hlk (Or.inl ⟨rfl, rr, u0, hP, rfl⟩) dL_call_22
set_option maxHeartbeats 4000000 in
set_option maxRecDepth 100000 in
theorem ct_L_walk (l : Launch) (L : Lay) (hfl : l.flags = flags0) (g : St) (n p b : Int) (hI : INV g n) (hrp : rg p) (hrb : rg b) : Met l yL_walk (.codeWith yL_walk cL_walk 5 (some .int) [(0, 10, 13, 13), (0, 10, 17, 15)] :: wsL_law) { frames := 8, cells := 2, slots := 12, locals := 134 } (va_Pc [.ref (adr L 0 0 0), .int (iI p), .int (iI b), .ref (adr L 20 0 0)] (HS L g)) (va_Qi (fun (r9 : Int32) (u : St) => (r9 = iI 0 ∧ ∃ (rr : Int32) (u0 : St), (fun (r9 : Int32) (u9 : St) => r9 = iI (mvR (svG g 0) 0 p b) ∧ u9 = (mvG (svG g 0) 0 p b) ∧ ((0 ≤ p ∧ p < 4) ∧ (-9 ≤ b ∧ b ≤ 9))) rr u0 ∧ u = up u0 20 0 0 0 rr.toInt) ∨ (r9 = iI 1 ∧ u = g ∧ (fun E => (E = eIX ∧ ¬ (0 ≤ p ∧ p < 4)) ∨ (E = eIA ∧ (0 ≤ p ∧ p < 4) ∧ ¬ (-9 ≤ b ∧ b ≤ 9))) eIX) ∨ (r9 = iI 2 ∧ u = g ∧ (fun E => (E = eIX ∧ ¬ (0 ≤ p ∧ p < 4)) ∨ (E = eIA ∧ (0 ≤ p ∧ p < 4) ∧ ¬ (-9 ≤ b ∧ b ≤ 9))) eIA)) (fun u t => HS L u t) (Af L)) 2 12 (Af L) := by
  refine ct_mkH (by decide +kernel) (Nat.le_of_ble_eq_true rfl) ?_
  intro pp ee ss mm bel mth cx C hr hlk htab
  show V pp l ee { frames := 8, cells := 2, slots := 12, locals := 134 } ss mm ([.ref (adr L 0 0 0), .int (iI p), .int (iI b), .ref (adr L 20 0 0)]).toArray bel mth cx 5 L (HH L g) 0 0 _ 0 [(0, .ref (adr L 0 0 0)), (1, .int (iI p)), (2, .int (iI b)), (3, .ref (adr L 20 0 0))] []
  refine v_aload_n (pc := 0) C 3 rfl rfl dL_walk_0 ?_
  refine v_iconst (pc := 1) C dL_walk_1 ?_
  refine v_aload_n (pc := 2) C 0 rfl rfl dL_walk_2 ?_
  refine v_iload_n (pc := 3) C 1 rfl rfl dL_walk_3 ?_
  refine v_iload_n (pc := 4) C 2 rfl rfl dL_walk_4 ?_
  refine v_tryi (pc := 5) C cw_RL_17 rcv_0 (ct_X6_walk l L hfl g p b hrp hrb hI.1 (INV_wA hI)) ⟨Nat.le_of_ble_eq_true rfl, Nat.le_of_ble_eq_true rfl⟩ rfl (Nat.le_of_ble_eq_true rfl) ⟨Nat.le_of_ble_eq_true rfl, Nat.le_of_ble_eq_true rfl⟩ rfl dL_walk_5 (fun E hE => ?_) (fun rr u0 hP => ?_)
  · have hE0 := hE
    rcases hE0 with ⟨rfl, -⟩ | ⟨rfl, -⟩
    · skip
      refine ⟨[], ⟨0, 10, 13, 13⟩, [⟨0, 10, 17, 15⟩], htab, (fun z hz => absurd hz List.not_mem_nil), by decide, by decide, by decide, u_4_13, fun qx => ?_⟩
      refine v_astore (pc := 13) C [(4, .ref qx), (0, .ref (adr L 0 0 0)), (1, .int (iI p)), (2, .int (iI b)), (3, .ref (adr L 20 0 0))] (by decide) rfl dL_walk_13 ?_
      refine v_iconst (pc := 15) C dL_walk_15 ?_
      exact v_iret (pc := 16) C hr hlk (Or.inr (Or.inl ⟨rfl, rfl, hE⟩)) dL_walk_16
    · skip
      refine ⟨[⟨0, 10, 13, 13⟩], ⟨0, 10, 17, 15⟩, [], htab, (fun z hz => ?_), by decide, by decide, by decide, u_4_14, fun qx => ?_⟩
      · skip
        simp only [List.mem_cons, List.not_mem_nil, or_false] at hz
        subst hz
        exact ⟨by decide, eIX, u_4_13, by decide, by decide⟩
      · skip
        refine v_astore (pc := 17) C [(4, .ref qx), (0, .ref (adr L 0 0 0)), (1, .int (iI p)), (2, .int (iI b)), (3, .ref (adr L 20 0 0))] (by decide) rfl dL_walk_17 ?_
        refine v_iconst (pc := 19) C dL_walk_19 ?_
        exact v_iret (pc := 20) C hr hlk (Or.inr (Or.inr (⟨rfl, rfl, hE⟩))) dL_walk_20
  · refine v_i2lw (pc := 8) C dL_walk_8 ?_
    refine as_20 (pc := 9) C (by decide) dL_walk_9 ?_
    refine v_goto (pc := 10) C 21 (by decide) dL_walk_10 ?_
    refine v_iconst (pc := 21) C dL_walk_21 ?_
    exact v_iret (pc := 22) C hr hlk (Or.inl ⟨rfl, rr, u0, hP, rfl⟩) dL_walk_22
set_option maxHeartbeats 4000000 in
set_option maxRecDepth 100000 in
theorem ct_L_throwBall (l : Launch) (L : Lay) (hfl : l.flags = flags0) (g : St) (n a b q : Int) (hI : INV g n) (hra : rg a) (hrb : rg b) (hq : q = 0 ∨ q = 1) : Met l yL_throwBall (.codeWith yL_throwBall cL_throwBall 6 (some .int) [(0, 12, 15, 15)] :: wsL_law) { frames := 8, cells := 2, slots := 12, locals := 136 } (va_Pc [.ref (adr L 0 0 0), .int (iI a), .int (iI b), .int (iI q), .ref (adr L 20 0 0)] (HS L g)) (va_Qi (fun (r9 : Int32) (u : St) => (r9 = iI 0 ∧ ∃ (rr : Int32) (u0 : St), (fun (r9 : Int32) (u9 : St) => r9 = iI (g 3 0 0 0) ∧ u9 = (up (up (up (svG g 0) 3 0 0 0 a) 3 0 0 1 b) 3 0 0 2 q) ∧ ((0 ≤ a ∧ a ≤ g 2 0 0 0) ∧ (1 ≤ b ∧ b ≤ 9))) rr u0 ∧ u = up u0 20 0 0 0 rr.toInt) ∨ (r9 = iI 1 ∧ u = g ∧ (fun E => E = eIA ∧ ¬ ((0 ≤ a ∧ a ≤ g 2 0 0 0) ∧ (1 ≤ b ∧ b ≤ 9))) eIA)) (fun u t => HS L u t) (Af L)) 2 12 (Af L) := by
  refine ct_mkH (by decide +kernel) (Nat.le_of_ble_eq_true rfl) ?_
  intro pp ee ss mm bel mth cx C hr hlk htab
  show V pp l ee { frames := 8, cells := 2, slots := 12, locals := 136 } ss mm ([.ref (adr L 0 0 0), .int (iI a), .int (iI b), .int (iI q), .ref (adr L 20 0 0)]).toArray bel mth cx 6 L (HH L g) 0 0 _ 0 [(0, .ref (adr L 0 0 0)), (1, .int (iI a)), (2, .int (iI b)), (3, .int (iI q)), (4, .ref (adr L 20 0 0))] []
  refine v_aload (pc := 0) C 4 rfl dL_throwBall_0 ?_
  refine v_iconst (pc := 2) C dL_throwBall_2 ?_
  refine v_aload_n (pc := 3) C 0 rfl rfl dL_throwBall_3 ?_
  refine v_iload_n (pc := 4) C 1 rfl rfl dL_throwBall_4 ?_
  refine v_iload_n (pc := 5) C 2 rfl rfl dL_throwBall_5 ?_
  refine v_iload_n (pc := 6) C 3 rfl rfl dL_throwBall_6 ?_
  refine v_tryi (pc := 7) C cw_RL_20 rcv_0 (ct_X6_throwBall l L hfl g a b q hra hrb hq hI.1 (INV_wA hI)) ⟨Nat.le_of_ble_eq_true rfl, Nat.le_of_ble_eq_true rfl⟩ rfl (Nat.le_of_ble_eq_true rfl) ⟨Nat.le_of_ble_eq_true rfl, Nat.le_of_ble_eq_true rfl⟩ rfl dL_throwBall_7 (fun E hE => ?_) (fun rr u0 hP => ?_)
  · have hE0 := hE
    obtain ⟨rfl, -⟩ := hE0
    refine ⟨[], ⟨0, 12, 15, 15⟩, [], htab, (fun z hz => absurd hz List.not_mem_nil), by decide, by decide, by decide, u_4_14, fun qx => ?_⟩
    refine v_astore (pc := 15) C [(5, .ref qx), (0, .ref (adr L 0 0 0)), (1, .int (iI a)), (2, .int (iI b)), (3, .int (iI q)), (4, .ref (adr L 20 0 0))] (by decide) rfl dL_throwBall_15 ?_
    refine v_iconst (pc := 17) C dL_throwBall_17 ?_
    exact v_iret (pc := 18) C hr hlk (Or.inr (⟨rfl, rfl, hE⟩)) dL_throwBall_18
  · refine v_i2lw (pc := 10) C dL_throwBall_10 ?_
    refine as_20 (pc := 11) C (by decide) dL_throwBall_11 ?_
    refine v_goto (pc := 12) C 19 (by decide) dL_throwBall_12 ?_
    refine v_iconst (pc := 19) C dL_throwBall_19 ?_
    exact v_iret (pc := 20) C hr hlk (Or.inl ⟨rfl, rr, u0, hP, rfl⟩) dL_throwBall_20
set_option maxHeartbeats 4000000 in
set_option maxRecDepth 100000 in
theorem ct_L_set (l : Launch) (L : Lay) (hfl : l.flags = flags0) (g : St) (n a v : Int) (hI : INV g n) (hra : rg a) (hrv : rg v) : Met l yL_set (.codeWith yL_set cL_set 5 (some .int) [(0, 10, 13, 13), (0, 10, 17, 15), (0, 10, 21, 27)] :: wsL_law) { frames := 8, cells := 3, slots := 18, locals := 135 } (va_Pc [.ref (adr L 0 0 0), .int (iI a), .int (iI v), .ref (adr L 20 0 0)] (HS L g)) (va_Qi (fun (r9 : Int32) (u : St) => (r9 = iI 0 ∧ ∃ (rr : Int32) (u0 : St), (fun (r9 : Int32) (u9 : St) => r9 = iI (g 2 0 0 a) ∧ u9 = (up (svG g 0) 2 0 0 a v) ∧ ((0 ≤ a ∧ a < 3) ∧ (lsV a ≤ v ∧ v ≤ msV a) ∧ (a = 0 → fur g 0 ≤ v))) rr u0 ∧ u = up u0 20 0 0 0 rr.toInt) ∨ (r9 = iI 1 ∧ u = g ∧ (fun E => (E = eIX ∧ ¬ (0 ≤ a ∧ a < 3)) ∨ (E = eIA ∧ (0 ≤ a ∧ a < 3) ∧ ¬ (lsV a ≤ v ∧ v ≤ msV a)) ∨ (E = eIS ∧ (0 ≤ a ∧ a < 3) ∧ (lsV a ≤ v ∧ v ≤ msV a) ∧ a = 0 ∧ v < fur g 0)) eIX) ∨ (r9 = iI 2 ∧ u = g ∧ (fun E => (E = eIX ∧ ¬ (0 ≤ a ∧ a < 3)) ∨ (E = eIA ∧ (0 ≤ a ∧ a < 3) ∧ ¬ (lsV a ≤ v ∧ v ≤ msV a)) ∨ (E = eIS ∧ (0 ≤ a ∧ a < 3) ∧ (lsV a ≤ v ∧ v ≤ msV a) ∧ a = 0 ∧ v < fur g 0)) eIA) ∨ (r9 = iI 3 ∧ u = g ∧ (fun E => (E = eIX ∧ ¬ (0 ≤ a ∧ a < 3)) ∨ (E = eIA ∧ (0 ≤ a ∧ a < 3) ∧ ¬ (lsV a ≤ v ∧ v ≤ msV a)) ∨ (E = eIS ∧ (0 ≤ a ∧ a < 3) ∧ (lsV a ≤ v ∧ v ≤ msV a) ∧ a = 0 ∧ v < fur g 0)) eIS)) (fun u t => HS L u t) (Af L)) 3 18 (Af L) := by
  refine ct_mkH (by decide +kernel) (Nat.le_of_ble_eq_true rfl) ?_
  intro pp ee ss mm bel mth cx C hr hlk htab
  show V pp l ee { frames := 8, cells := 3, slots := 18, locals := 135 } ss mm ([.ref (adr L 0 0 0), .int (iI a), .int (iI v), .ref (adr L 20 0 0)]).toArray bel mth cx 5 L (HH L g) 0 0 _ 0 [(0, .ref (adr L 0 0 0)), (1, .int (iI a)), (2, .int (iI v)), (3, .ref (adr L 20 0 0))] []
  refine v_aload_n (pc := 0) C 3 rfl rfl dL_set_0 ?_
  refine v_iconst (pc := 1) C dL_set_1 ?_
  refine v_aload_n (pc := 2) C 0 rfl rfl dL_set_2 ?_
  refine v_iload_n (pc := 3) C 1 rfl rfl dL_set_3 ?_
  refine v_iload_n (pc := 4) C 2 rfl rfl dL_set_4 ?_
  refine v_tryi (pc := 5) C cw_RL_24 rcv_0 (ct_X6_set l L hfl g a v hra hrv hI.1 (INV_wA hI)) ⟨Nat.le_of_ble_eq_true rfl, Nat.le_of_ble_eq_true rfl⟩ rfl (Nat.le_of_ble_eq_true rfl) ⟨Nat.le_of_ble_eq_true rfl, Nat.le_of_ble_eq_true rfl⟩ rfl dL_set_5 (fun E hE => ?_) (fun rr u0 hP => ?_)
  · have hE0 := hE
    rcases hE0 with ⟨rfl, -⟩ | ⟨rfl, -⟩ | ⟨rfl, -⟩
    · skip
      refine ⟨[], ⟨0, 10, 13, 13⟩, [⟨0, 10, 17, 15⟩, ⟨0, 10, 21, 27⟩], htab, (fun z hz => absurd hz List.not_mem_nil), by decide, by decide, by decide, u_4_13, fun qx => ?_⟩
      refine v_astore (pc := 13) C [(4, .ref qx), (0, .ref (adr L 0 0 0)), (1, .int (iI a)), (2, .int (iI v)), (3, .ref (adr L 20 0 0))] (by decide) rfl dL_set_13 ?_
      refine v_iconst (pc := 15) C dL_set_15 ?_
      exact v_iret (pc := 16) C hr hlk (Or.inr (Or.inl ⟨rfl, rfl, hE⟩)) dL_set_16
    · skip
      refine ⟨[⟨0, 10, 13, 13⟩], ⟨0, 10, 17, 15⟩, [⟨0, 10, 21, 27⟩], htab, (fun z hz => ?_), by decide, by decide, by decide, u_4_14, fun qx => ?_⟩
      · skip
        simp only [List.mem_cons, List.not_mem_nil, or_false] at hz
        subst hz
        exact ⟨by decide, eIX, u_4_13, by decide, by decide⟩
      · skip
        refine v_astore (pc := 17) C [(4, .ref qx), (0, .ref (adr L 0 0 0)), (1, .int (iI a)), (2, .int (iI v)), (3, .ref (adr L 20 0 0))] (by decide) rfl dL_set_17 ?_
        refine v_iconst (pc := 19) C dL_set_19 ?_
        exact v_iret (pc := 20) C hr hlk (Or.inr (Or.inr (Or.inl ⟨rfl, rfl, hE⟩))) dL_set_20
    · skip
      refine ⟨[⟨0, 10, 13, 13⟩, ⟨0, 10, 17, 15⟩], ⟨0, 10, 21, 27⟩, [], htab, (fun z hz => ?_), by decide, by decide, by decide, u_11_20, fun qx => ?_⟩
      · skip
        simp only [List.mem_cons, List.not_mem_nil, or_false] at hz
        rcases hz with rfl | rfl
        · exact ⟨by decide, eIX, u_4_13, by decide, by decide⟩
        · exact ⟨by decide, eIA, u_4_14, by decide, by decide⟩
      · skip
        refine v_astore (pc := 21) C [(4, .ref qx), (0, .ref (adr L 0 0 0)), (1, .int (iI a)), (2, .int (iI v)), (3, .ref (adr L 20 0 0))] (by decide) rfl dL_set_21 ?_
        refine v_iconst (pc := 23) C dL_set_23 ?_
        exact v_iret (pc := 24) C hr hlk (Or.inr (Or.inr (Or.inr (⟨rfl, rfl, hE⟩)))) dL_set_24
  · refine v_i2lw (pc := 8) C dL_set_8 ?_
    refine as_20 (pc := 9) C (by decide) dL_set_9 ?_
    refine v_goto (pc := 10) C 25 (by decide) dL_set_10 ?_
    refine v_iconst (pc := 25) C dL_set_25 ?_
    exact v_iret (pc := 26) C hr hlk (Or.inl ⟨rfl, rr, u0, hP, rfl⟩) dL_set_26
set_option maxHeartbeats 4000000 in
set_option maxRecDepth 100000 in
theorem ct_L_pass (l : Launch) (L : Lay) (hfl : l.flags = flags0) (g : St) (n t : Int) (hI : INV g n) (hrt : rg t) : Met l yL_pass (.codeWith yL_pass cL_pass 4 (some .int) [(0, 9, 12, 15), (0, 9, 15, 27)] :: wsL_law) { frames := 8, cells := 2, slots := 12, locals := 134 } (va_Pc [.ref (adr L 0 0 0), .int (iI t), .ref (adr L 20 0 0)] (HS L g)) (va_Qi (fun (r9 : Int32) (u : St) => (r9 = iI 0 ∧ ∃ (rr : Int32) (u0 : St), (fun (r9 : Int32) (u : St) => ∃ z : Int, r9 = iI z ∧ ((1 ≤ t ∧ t ≤ 99) ∧ g 1 0 0 0 + t ≤ 99999 ∧ trs 0 t.toNat (svG g 0) u z)) rr u0 ∧ u = up u0 20 0 0 0 rr.toInt) ∨ (r9 = iI 1 ∧ u = g ∧ (fun E => (E = eIA ∧ ¬ (1 ≤ t ∧ t ≤ 99)) ∨ (E = eIS ∧ (1 ≤ t ∧ t ≤ 99) ∧ ¬ (g 1 0 0 0 + t ≤ 99999))) eIA) ∨ (r9 = iI 2 ∧ u = g ∧ (fun E => (E = eIA ∧ ¬ (1 ≤ t ∧ t ≤ 99)) ∨ (E = eIS ∧ (1 ≤ t ∧ t ≤ 99) ∧ ¬ (g 1 0 0 0 + t ≤ 99999))) eIS)) (fun u t => HS L u t) (Af L)) 2 12 (Af L) := by
  refine ct_mkH (by decide +kernel) (Nat.le_of_ble_eq_true rfl) ?_
  intro pp ee ss mm bel mth cx C hr hlk htab
  show V pp l ee { frames := 8, cells := 2, slots := 12, locals := 134 } ss mm ([.ref (adr L 0 0 0), .int (iI t), .ref (adr L 20 0 0)]).toArray bel mth cx 4 L (HH L g) 0 0 _ 0 [(0, .ref (adr L 0 0 0)), (1, .int (iI t)), (2, .ref (adr L 20 0 0))] []
  refine v_aload_n (pc := 0) C 2 rfl rfl dL_pass_0 ?_
  refine v_iconst (pc := 1) C dL_pass_1 ?_
  refine v_aload_n (pc := 2) C 0 rfl rfl dL_pass_2 ?_
  refine v_iload_n (pc := 3) C 1 rfl rfl dL_pass_3 ?_
  refine v_tryi (pc := 4) C cw_RL_29 rcv_0 (ct_X6_pass l L hfl g t hrt hI.1 (INV_wA hI)) ⟨Nat.le_of_ble_eq_true rfl, Nat.le_of_ble_eq_true rfl⟩ rfl (Nat.le_of_ble_eq_true rfl) ⟨Nat.le_of_ble_eq_true rfl, Nat.le_of_ble_eq_true rfl⟩ rfl dL_pass_4 (fun E hE => ?_) (fun rr u0 hP => ?_)
  · have hE0 := hE
    rcases hE0 with ⟨rfl, -⟩ | ⟨rfl, -⟩
    · skip
      refine ⟨[], ⟨0, 9, 12, 15⟩, [⟨0, 9, 15, 27⟩], htab, (fun z hz => absurd hz List.not_mem_nil), by decide, by decide, by decide, u_4_14, fun qx => ?_⟩
      refine v_astore_n (pc := 12) C [(3, .ref qx), (0, .ref (adr L 0 0 0)), (1, .int (iI t)), (2, .ref (adr L 20 0 0))] rfl (by decide) rfl dL_pass_12 ?_
      refine v_iconst (pc := 13) C dL_pass_13 ?_
      exact v_iret (pc := 14) C hr hlk (Or.inr (Or.inl ⟨rfl, rfl, hE⟩)) dL_pass_14
    · skip
      refine ⟨[⟨0, 9, 12, 15⟩], ⟨0, 9, 15, 27⟩, [], htab, (fun z hz => ?_), by decide, by decide, by decide, u_11_20, fun qx => ?_⟩
      · skip
        simp only [List.mem_cons, List.not_mem_nil, or_false] at hz
        subst hz
        exact ⟨by decide, eIA, u_4_14, by decide, by decide⟩
      · skip
        refine v_astore_n (pc := 15) C [(3, .ref qx), (0, .ref (adr L 0 0 0)), (1, .int (iI t)), (2, .ref (adr L 20 0 0))] rfl (by decide) rfl dL_pass_15 ?_
        refine v_iconst (pc := 16) C dL_pass_16 ?_
        exact v_iret (pc := 17) C hr hlk (Or.inr (Or.inr (⟨rfl, rfl, hE⟩))) dL_pass_17
  · refine v_i2lw (pc := 7) C dL_pass_7 ?_
    refine as_20 (pc := 8) C (by decide) dL_pass_8 ?_
    refine v_goto (pc := 9) C 18 (by decide) dL_pass_9 ?_
    refine v_iconst (pc := 18) C dL_pass_18 ?_
    exact v_iret (pc := 19) C hr hlk (Or.inl ⟨rfl, rr, u0, hP, rfl⟩) dL_pass_19
set_option maxHeartbeats 4000000 in
set_option maxRecDepth 100000 in
theorem ct_L_append (l : Launch) (L : Lay) (hfl : l.flags = flags0) (g : St) (n a : Int) (hI : INV g n) (hra : rg a) : Met l yL_append (.codeWith yL_append cL_append 4 (some .int) [(0, 9, 12, 15), (0, 9, 15, 27)] :: wsL_law) { frames := 8, cells := 2, slots := 12, locals := 133 } (va_Pc [.ref (adr L 0 0 0), .int (iI a), .ref (adr L 20 0 0)] (HS L g)) (va_Qi (fun (r9 : Int32) (u : St) => (r9 = iI 0 ∧ ∃ (rr : Int32) (u0 : St), (fun (r9 : Int32) (u9 : St) => r9 = iI (g 12 0 0 1 + 1) ∧ u9 = (up (up g 13 0 0 (g 12 0 0 1) a) 12 0 0 1 (g 12 0 0 1 + 1)) ∧ ((33 ≤ a ∧ a ≤ 126) ∧ g 12 0 0 1 < 60)) rr u0 ∧ u = up u0 20 0 0 0 rr.toInt) ∨ (r9 = iI 1 ∧ u = g ∧ (fun E => (E = eIA ∧ ¬ (33 ≤ a ∧ a ≤ 126)) ∨ (E = eIS ∧ (33 ≤ a ∧ a ≤ 126) ∧ 60 ≤ g 12 0 0 1)) eIA) ∨ (r9 = iI 2 ∧ u = g ∧ (fun E => (E = eIA ∧ ¬ (33 ≤ a ∧ a ≤ 126)) ∨ (E = eIS ∧ (33 ≤ a ∧ a ≤ 126) ∧ 60 ≤ g 12 0 0 1)) eIS)) (fun u t => HS L u t) (Af L)) 2 12 (Af L) := by
  refine ct_mkH (by decide +kernel) (Nat.le_of_ble_eq_true rfl) ?_
  intro pp ee ss mm bel mth cx C hr hlk htab
  show V pp l ee { frames := 8, cells := 2, slots := 12, locals := 133 } ss mm ([.ref (adr L 0 0 0), .int (iI a), .ref (adr L 20 0 0)]).toArray bel mth cx 4 L (HH L g) 0 0 _ 0 [(0, .ref (adr L 0 0 0)), (1, .int (iI a)), (2, .ref (adr L 20 0 0))] []
  refine v_aload_n (pc := 0) C 2 rfl rfl dL_append_0 ?_
  refine v_iconst (pc := 1) C dL_append_1 ?_
  refine v_aload_n (pc := 2) C 0 rfl rfl dL_append_2 ?_
  refine v_iload_n (pc := 3) C 1 rfl rfl dL_append_3 ?_
  refine v_tryi (pc := 4) C cw_RL_33 rcv_0 (ct_X6_append l L hfl g a hra hI.2.2.1) ⟨Nat.le_of_ble_eq_true rfl, Nat.le_of_ble_eq_true rfl⟩ rfl (Nat.le_of_ble_eq_true rfl) ⟨Nat.le_of_ble_eq_true rfl, Nat.le_of_ble_eq_true rfl⟩ rfl dL_append_4 (fun E hE => ?_) (fun rr u0 hP => ?_)
  · have hE0 := hE
    rcases hE0 with ⟨rfl, -⟩ | ⟨rfl, -⟩
    · skip
      refine ⟨[], ⟨0, 9, 12, 15⟩, [⟨0, 9, 15, 27⟩], htab, (fun z hz => absurd hz List.not_mem_nil), by decide, by decide, by decide, u_4_14, fun qx => ?_⟩
      refine v_astore_n (pc := 12) C [(3, .ref qx), (0, .ref (adr L 0 0 0)), (1, .int (iI a)), (2, .ref (adr L 20 0 0))] rfl (by decide) rfl dL_append_12 ?_
      refine v_iconst (pc := 13) C dL_append_13 ?_
      exact v_iret (pc := 14) C hr hlk (Or.inr (Or.inl ⟨rfl, rfl, hE⟩)) dL_append_14
    · skip
      refine ⟨[⟨0, 9, 12, 15⟩], ⟨0, 9, 15, 27⟩, [], htab, (fun z hz => ?_), by decide, by decide, by decide, u_11_20, fun qx => ?_⟩
      · skip
        simp only [List.mem_cons, List.not_mem_nil, or_false] at hz
        subst hz
        exact ⟨by decide, eIA, u_4_14, by decide, by decide⟩
      · skip
        refine v_astore_n (pc := 15) C [(3, .ref qx), (0, .ref (adr L 0 0 0)), (1, .int (iI a)), (2, .ref (adr L 20 0 0))] rfl (by decide) rfl dL_append_15 ?_
        refine v_iconst (pc := 16) C dL_append_16 ?_
        exact v_iret (pc := 17) C hr hlk (Or.inr (Or.inr (⟨rfl, rfl, hE⟩))) dL_append_17
  · refine v_i2lw (pc := 7) C dL_append_7 ?_
    refine as_20 (pc := 8) C (by decide) dL_append_8 ?_
    refine v_goto (pc := 9) C 18 (by decide) dL_append_9 ?_
    refine v_iconst (pc := 18) C dL_append_18 ?_
    exact v_iret (pc := 19) C hr hlk (Or.inl ⟨rfl, rr, u0, hP, rfl⟩) dL_append_19
set_option maxHeartbeats 4000000 in
set_option maxRecDepth 100000 in
theorem ct_L_run (l : Launch) (L : Lay) (hfl : l.flags = flags0) (g : St) (n  : Int) (hI : INV g n)  : Met l yL_run (.codeWith yL_run cL_run 3 (some .int) [(0, 8, 11, 15)] :: wsL_law) { frames := 7, cells := 1, slots := 6, locals := 157 } (va_Pc [.ref (adr L 0 0 0), .ref (adr L 20 0 0)] (HS L g)) (va_Qi (fun (r9 : Int32) (u : St) => (r9 = iI 0 ∧ ∃ (rr : Int32) (u0 : St), (fun (r9 : Int32) (u : St) => ∃ z : Int, r9 = iI z ∧ ((stN (g 13 0 0) (g 12 0 0 1).toNat = 9 ∨ stN (g 13 0 0) (g 12 0 0 1).toNat = 8) ∧ ∃ v, rnC 60 (svG g 0) 0 v z ∧ u = up v 12 0 0 1 0)) rr u0 ∧ u = up u0 20 0 0 0 rr.toInt) ∨ (r9 = iI 1 ∧ u = g ∧ (fun E => E = eIA ∧ ¬ (stN (g 13 0 0) (g 12 0 0 1).toNat = 9 ∨ stN (g 13 0 0) (g 12 0 0 1).toNat = 8)) eIA)) (fun u t => HS L u t) (Af L)) 1 6 (Af L) := by
  refine ct_mkH (by decide +kernel) (Nat.le_of_ble_eq_true rfl) ?_
  intro pp ee ss mm bel mth cx C hr hlk htab
  show V pp l ee { frames := 7, cells := 1, slots := 6, locals := 157 } ss mm ([.ref (adr L 0 0 0), .ref (adr L 20 0 0)]).toArray bel mth cx 3 L (HH L g) 0 0 _ 0 [(0, .ref (adr L 0 0 0)), (1, .ref (adr L 20 0 0))] []
  refine v_aload_n (pc := 0) C 1 rfl rfl dL_run_0 ?_
  refine v_iconst (pc := 1) C dL_run_1 ?_
  refine v_aload_n (pc := 2) C 0 rfl rfl dL_run_2 ?_
  refine v_tryi (pc := 3) C cw_RL_36 rcv_0 (ct_X6_run l L hfl g  hI.1 (INV_wA hI) hI.2.2.1 (INV_c6 hI)) ⟨Nat.le_of_ble_eq_true rfl, Nat.le_of_ble_eq_true rfl⟩ rfl (Nat.le_of_ble_eq_true rfl) ⟨Nat.le_of_ble_eq_true rfl, Nat.le_of_ble_eq_true rfl⟩ rfl dL_run_3 (fun E hE => ?_) (fun rr u0 hP => ?_)
  · have hE0 := hE
    obtain ⟨rfl, -⟩ := hE0
    refine ⟨[], ⟨0, 8, 11, 15⟩, [], htab, (fun z hz => absurd hz List.not_mem_nil), by decide, by decide, by decide, u_4_14, fun qx => ?_⟩
    refine v_astore_n (pc := 11) C [(2, .ref qx), (0, .ref (adr L 0 0 0)), (1, .ref (adr L 20 0 0))] rfl (by decide) rfl dL_run_11 ?_
    refine v_iconst (pc := 12) C dL_run_12 ?_
    exact v_iret (pc := 13) C hr hlk (Or.inr (⟨rfl, rfl, hE⟩)) dL_run_13
  · refine v_i2lw (pc := 6) C dL_run_6 ?_
    refine as_20 (pc := 7) C (by decide) dL_run_7 ?_
    refine v_goto (pc := 8) C 14 (by decide) dL_run_8 ?_
    refine v_iconst (pc := 14) C dL_run_14 ?_
    exact v_iret (pc := 15) C hr hlk (Or.inl ⟨rfl, rr, u0, hP, rfl⟩) dL_run_15
set_option maxHeartbeats 4000000 in
set_option maxRecDepth 100000 in
theorem ct_L_keep (l : Launch) (L : Lay) (hfl : l.flags = flags0) (g : St) (n a : Int) (hI : INV g n) (hra : rg a) : Met l yL_keep (.codeWith yL_keep cL_keep 4 (some .int) [(0, 9, 12, 15)] :: wsL_law) { frames := 8, cells := 1, slots := 6, locals := 133 } (va_Pc [.ref (adr L 0 0 0), .int (iI a), .ref (adr L 20 0 0)] (HS L g)) (va_Qi (fun (r9 : Int32) (u : St) => (r9 = iI 0 ∧ ∃ (rr : Int32) (u0 : St), (fun (r9 : Int32) (u9 : St) => r9 = iI (g 1 0 0 0) ∧ u9 = (up (cpE g (1 + a) 0 (g 1 0 0 2).toNat) 11 0 0 a 1) ∧ (0 ≤ a ∧ a ≤ 1)) rr u0 ∧ u = up u0 20 0 0 0 rr.toInt) ∨ (r9 = iI 1 ∧ u = g ∧ (fun E => E = eIA ∧ ¬ (0 ≤ a ∧ a ≤ 1)) eIA)) (fun u t => HS L u t) (Af L)) 1 6 (Af L) := by
  refine ct_mkH (by decide +kernel) (Nat.le_of_ble_eq_true rfl) ?_
  intro pp ee ss mm bel mth cx C hr hlk htab
  show V pp l ee { frames := 8, cells := 1, slots := 6, locals := 133 } ss mm ([.ref (adr L 0 0 0), .int (iI a), .ref (adr L 20 0 0)]).toArray bel mth cx 4 L (HH L g) 0 0 _ 0 [(0, .ref (adr L 0 0 0)), (1, .int (iI a)), (2, .ref (adr L 20 0 0))] []
  refine v_aload_n (pc := 0) C 2 rfl rfl dL_keep_0 ?_
  refine v_iconst (pc := 1) C dL_keep_1 ?_
  refine v_aload_n (pc := 2) C 0 rfl rfl dL_keep_2 ?_
  refine v_iload_n (pc := 3) C 1 rfl rfl dL_keep_3 ?_
  refine v_tryi (pc := 4) C cw_RL_40 rcv_0 (ct_X6_keep l L hfl g a hra (INV_wA hI)) ⟨Nat.le_of_ble_eq_true rfl, Nat.le_of_ble_eq_true rfl⟩ rfl (Nat.le_of_ble_eq_true rfl) ⟨Nat.le_of_ble_eq_true rfl, Nat.le_of_ble_eq_true rfl⟩ rfl dL_keep_4 (fun E hE => ?_) (fun rr u0 hP => ?_)
  · have hE0 := hE
    obtain ⟨rfl, -⟩ := hE0
    refine ⟨[], ⟨0, 9, 12, 15⟩, [], htab, (fun z hz => absurd hz List.not_mem_nil), by decide, by decide, by decide, u_4_14, fun qx => ?_⟩
    refine v_astore_n (pc := 12) C [(3, .ref qx), (0, .ref (adr L 0 0 0)), (1, .int (iI a)), (2, .ref (adr L 20 0 0))] rfl (by decide) rfl dL_keep_12 ?_
    refine v_iconst (pc := 13) C dL_keep_13 ?_
    exact v_iret (pc := 14) C hr hlk (Or.inr (⟨rfl, rfl, hE⟩)) dL_keep_14
  · refine v_i2lw (pc := 7) C dL_keep_7 ?_
    refine as_20 (pc := 8) C (by decide) dL_keep_8 ?_
    refine v_goto (pc := 9) C 15 (by decide) dL_keep_9 ?_
    refine v_iconst (pc := 15) C dL_keep_15 ?_
    exact v_iret (pc := 16) C hr hlk (Or.inl ⟨rfl, rr, u0, hP, rfl⟩) dL_keep_16
set_option maxHeartbeats 4000000 in
set_option maxRecDepth 100000 in
theorem ct_L_goBack (l : Launch) (L : Lay) (hfl : l.flags = flags0) (g : St) (n a : Int) (hI : INV g n) (hra : rg a) : Met l yL_goBack (.codeWith yL_goBack cL_goBack 4 (some .int) [(0, 9, 12, 15), (0, 9, 15, 27)] :: wsL_law) { frames := 8, cells := 2, slots := 12, locals := 133 } (va_Pc [.ref (adr L 0 0 0), .int (iI a), .ref (adr L 20 0 0)] (HS L g)) (va_Qi (fun (r9 : Int32) (u : St) => (r9 = iI 0 ∧ ∃ (rr : Int32) (u0 : St), (fun (r9 : Int32) (u9 : St) => r9 = iI (g 1 (1 + a) 0 0) ∧ u9 = (cpE (svG g 0) 0 (1 + a) (svG g 0 1 (1 + a) 0 2).toNat) ∧ ((0 ≤ a ∧ a ≤ 1) ∧ g 11 0 0 a = 1)) rr u0 ∧ u = up u0 20 0 0 0 rr.toInt) ∨ (r9 = iI 1 ∧ u = g ∧ (fun E => (E = eIA ∧ ¬ (0 ≤ a ∧ a ≤ 1)) ∨ (E = eIS ∧ (0 ≤ a ∧ a ≤ 1) ∧ g 11 0 0 a = 0)) eIA) ∨ (r9 = iI 2 ∧ u = g ∧ (fun E => (E = eIA ∧ ¬ (0 ≤ a ∧ a ≤ 1)) ∨ (E = eIS ∧ (0 ≤ a ∧ a ≤ 1) ∧ g 11 0 0 a = 0)) eIS)) (fun u t => HS L u t) (Af L)) 2 12 (Af L) := by
  refine ct_mkH (by decide +kernel) (Nat.le_of_ble_eq_true rfl) ?_
  intro pp ee ss mm bel mth cx C hr hlk htab
  show V pp l ee { frames := 8, cells := 2, slots := 12, locals := 133 } ss mm ([.ref (adr L 0 0 0), .int (iI a), .ref (adr L 20 0 0)]).toArray bel mth cx 4 L (HH L g) 0 0 _ 0 [(0, .ref (adr L 0 0 0)), (1, .int (iI a)), (2, .ref (adr L 20 0 0))] []
  refine v_aload_n (pc := 0) C 2 rfl rfl dL_goBack_0 ?_
  refine v_iconst (pc := 1) C dL_goBack_1 ?_
  refine v_aload_n (pc := 2) C 0 rfl rfl dL_goBack_2 ?_
  refine v_iload_n (pc := 3) C 1 rfl rfl dL_goBack_3 ?_
  refine v_tryi (pc := 4) C cw_RL_43 rcv_0 (ct_X6_goBack l L hfl g a hra hI.1 (INV_wA hI) (INV_kp hI)) ⟨Nat.le_of_ble_eq_true rfl, Nat.le_of_ble_eq_true rfl⟩ rfl (Nat.le_of_ble_eq_true rfl) ⟨Nat.le_of_ble_eq_true rfl, Nat.le_of_ble_eq_true rfl⟩ rfl dL_goBack_4 (fun E hE => ?_) (fun rr u0 hP => ?_)
  · have hE0 := hE
    rcases hE0 with ⟨rfl, -⟩ | ⟨rfl, -⟩
    · skip
      refine ⟨[], ⟨0, 9, 12, 15⟩, [⟨0, 9, 15, 27⟩], htab, (fun z hz => absurd hz List.not_mem_nil), by decide, by decide, by decide, u_4_14, fun qx => ?_⟩
      refine v_astore_n (pc := 12) C [(3, .ref qx), (0, .ref (adr L 0 0 0)), (1, .int (iI a)), (2, .ref (adr L 20 0 0))] rfl (by decide) rfl dL_goBack_12 ?_
      refine v_iconst (pc := 13) C dL_goBack_13 ?_
      exact v_iret (pc := 14) C hr hlk (Or.inr (Or.inl ⟨rfl, rfl, hE⟩)) dL_goBack_14
    · skip
      refine ⟨[⟨0, 9, 12, 15⟩], ⟨0, 9, 15, 27⟩, [], htab, (fun z hz => ?_), by decide, by decide, by decide, u_11_20, fun qx => ?_⟩
      · skip
        simp only [List.mem_cons, List.not_mem_nil, or_false] at hz
        subst hz
        exact ⟨by decide, eIA, u_4_14, by decide, by decide⟩
      · skip
        refine v_astore_n (pc := 15) C [(3, .ref qx), (0, .ref (adr L 0 0 0)), (1, .int (iI a)), (2, .ref (adr L 20 0 0))] rfl (by decide) rfl dL_goBack_15 ?_
        refine v_iconst (pc := 16) C dL_goBack_16 ?_
        exact v_iret (pc := 17) C hr hlk (Or.inr (Or.inr (⟨rfl, rfl, hE⟩))) dL_goBack_17
  · refine v_i2lw (pc := 7) C dL_goBack_7 ?_
    refine as_20 (pc := 8) C (by decide) dL_goBack_8 ?_
    refine v_goto (pc := 9) C 18 (by decide) dL_goBack_9 ?_
    refine v_iconst (pc := 18) C dL_goBack_18 ?_
    exact v_iret (pc := 19) C hr hlk (Or.inl ⟨rfl, rr, u0, hP, rfl⟩) dL_goBack_19
set_option maxHeartbeats 4000000 in
set_option maxRecDepth 100000 in
theorem ct_L_undo (l : Launch) (L : Lay) (hfl : l.flags = flags0) (g : St) (n  : Int) (hI : INV g n)  : Met l yL_undo (.codeWith yL_undo cL_undo 3 (some .int) [(0, 8, 11, 27)] :: wsL_law) { frames := 7, cells := 1, slots := 6, locals := 110 } (va_Pc [.ref (adr L 0 0 0), .ref (adr L 20 0 0)] (HS L g)) (va_Qi (fun (r9 : Int32) (u : St) => (r9 = iI 0 ∧ ∃ (rr : Int32) (u0 : St), (fun (r9 : Int32) (u9 : St) => r9 = iI (g 8 0 0 1 - 1) ∧ u9 = (rsG g 0) ∧ (0 < g 8 0 0 1)) rr u0 ∧ u = up u0 20 0 0 0 rr.toInt) ∨ (r9 = iI 1 ∧ u = g ∧ (fun E => E = eIS ∧ ¬ (0 < g 8 0 0 1)) eIS)) (fun u t => HS L u t) (Af L)) 1 6 (Af L) := by
  refine ct_mkH (by decide +kernel) (Nat.le_of_ble_eq_true rfl) ?_
  intro pp ee ss mm bel mth cx C hr hlk htab
  show V pp l ee { frames := 7, cells := 1, slots := 6, locals := 110 } ss mm ([.ref (adr L 0 0 0), .ref (adr L 20 0 0)]).toArray bel mth cx 3 L (HH L g) 0 0 _ 0 [(0, .ref (adr L 0 0 0)), (1, .ref (adr L 20 0 0))] []
  refine v_aload_n (pc := 0) C 1 rfl rfl dL_undo_0 ?_
  refine v_iconst (pc := 1) C dL_undo_1 ?_
  refine v_aload_n (pc := 2) C 0 rfl rfl dL_undo_2 ?_
  refine v_tryi (pc := 3) C cw_RL_46 rcv_0 (ct_X6_undo l L hfl g  hI.1 (INV_wA hI)) ⟨Nat.le_of_ble_eq_true rfl, Nat.le_of_ble_eq_true rfl⟩ rfl (Nat.le_of_ble_eq_true rfl) ⟨Nat.le_of_ble_eq_true rfl, Nat.le_of_ble_eq_true rfl⟩ rfl dL_undo_3 (fun E hE => ?_) (fun rr u0 hP => ?_)
  · have hE0 := hE
    obtain ⟨rfl, -⟩ := hE0
    refine ⟨[], ⟨0, 8, 11, 27⟩, [], htab, (fun z hz => absurd hz List.not_mem_nil), by decide, by decide, by decide, u_11_20, fun qx => ?_⟩
    refine v_astore_n (pc := 11) C [(2, .ref qx), (0, .ref (adr L 0 0 0)), (1, .ref (adr L 20 0 0))] rfl (by decide) rfl dL_undo_11 ?_
    refine v_iconst (pc := 12) C dL_undo_12 ?_
    exact v_iret (pc := 13) C hr hlk (Or.inr (⟨rfl, rfl, hE⟩)) dL_undo_13
  · refine v_i2lw (pc := 6) C dL_undo_6 ?_
    refine as_20 (pc := 7) C (by decide) dL_undo_7 ?_
    refine v_goto (pc := 8) C 14 (by decide) dL_undo_8 ?_
    refine v_iconst (pc := 14) C dL_undo_14 ?_
    exact v_iret (pc := 15) C hr hlk (Or.inl ⟨rfl, rr, u0, hP, rfl⟩) dL_undo_15
set_option maxHeartbeats 4000000 in
set_option maxRecDepth 100000 in
theorem ct_L_playerOf (l : Launch) (L : Lay) (hfl : l.flags = flags0) (g : St) (n p w : Int) (hI : INV g n) (hrp : rg p) (hrw : rg w) : Met l yL_playerOf (.codeWith yL_playerOf cL_playerOf 5 (some .int) [(0, 10, 13, 13), (0, 10, 17, 15)] :: wsL_law) { frames := 8, cells := 2, slots := 12, locals := 134 } (va_Pc [.ref (adr L 0 0 0), .int (iI p), .int (iI w), .ref (adr L 20 0 0)] (HS L g)) (va_Qi (fun (r9 : Int32) (u : St) => (r9 = iI 0 ∧ ∃ (rr : Int32) (u0 : St), (fun (r9 : Int32) (u9 : St) => r9 = iI (plN g 0 p w) ∧ u9 = g ∧ ((0 ≤ p ∧ p < 4) ∧ (0 ≤ w ∧ w ≤ 6))) rr u0 ∧ u = up u0 20 0 0 0 rr.toInt) ∨ (r9 = iI 1 ∧ u = g ∧ (fun E => (E = eIX ∧ ¬ (0 ≤ p ∧ p < 4)) ∨ (E = eIA ∧ (0 ≤ p ∧ p < 4) ∧ ¬ (0 ≤ w ∧ w ≤ 6))) eIX) ∨ (r9 = iI 2 ∧ u = g ∧ (fun E => (E = eIX ∧ ¬ (0 ≤ p ∧ p < 4)) ∨ (E = eIA ∧ (0 ≤ p ∧ p < 4) ∧ ¬ (0 ≤ w ∧ w ≤ 6))) eIA)) (fun u t => HS L u t) (Af L)) 2 12 (Af L) := by
  refine ct_mkH (by decide +kernel) (Nat.le_of_ble_eq_true rfl) ?_
  intro pp ee ss mm bel mth cx C hr hlk htab
  show V pp l ee { frames := 8, cells := 2, slots := 12, locals := 134 } ss mm ([.ref (adr L 0 0 0), .int (iI p), .int (iI w), .ref (adr L 20 0 0)]).toArray bel mth cx 5 L (HH L g) 0 0 _ 0 [(0, .ref (adr L 0 0 0)), (1, .int (iI p)), (2, .int (iI w)), (3, .ref (adr L 20 0 0))] []
  refine v_aload_n (pc := 0) C 3 rfl rfl dL_playerOf_0 ?_
  refine v_iconst (pc := 1) C dL_playerOf_1 ?_
  refine v_aload_n (pc := 2) C 0 rfl rfl dL_playerOf_2 ?_
  refine v_iload_n (pc := 3) C 1 rfl rfl dL_playerOf_3 ?_
  refine v_iload_n (pc := 4) C 2 rfl rfl dL_playerOf_4 ?_
  refine v_tryi (pc := 5) C cw_RL_49 rcv_0 (ct_X6_playerOf l L hfl g p w hrp hrw (INV_wf hI)) ⟨Nat.le_of_ble_eq_true rfl, Nat.le_of_ble_eq_true rfl⟩ rfl (Nat.le_of_ble_eq_true rfl) ⟨Nat.le_of_ble_eq_true rfl, Nat.le_of_ble_eq_true rfl⟩ rfl dL_playerOf_5 (fun E hE => ?_) (fun rr u0 hP => ?_)
  · have hE0 := hE
    rcases hE0 with ⟨rfl, -⟩ | ⟨rfl, -⟩
    · skip
      refine ⟨[], ⟨0, 10, 13, 13⟩, [⟨0, 10, 17, 15⟩], htab, (fun z hz => absurd hz List.not_mem_nil), by decide, by decide, by decide, u_4_13, fun qx => ?_⟩
      refine v_astore (pc := 13) C [(4, .ref qx), (0, .ref (adr L 0 0 0)), (1, .int (iI p)), (2, .int (iI w)), (3, .ref (adr L 20 0 0))] (by decide) rfl dL_playerOf_13 ?_
      refine v_iconst (pc := 15) C dL_playerOf_15 ?_
      exact v_iret (pc := 16) C hr hlk (Or.inr (Or.inl ⟨rfl, rfl, hE⟩)) dL_playerOf_16
    · skip
      refine ⟨[⟨0, 10, 13, 13⟩], ⟨0, 10, 17, 15⟩, [], htab, (fun z hz => ?_), by decide, by decide, by decide, u_4_14, fun qx => ?_⟩
      · skip
        simp only [List.mem_cons, List.not_mem_nil, or_false] at hz
        subst hz
        exact ⟨by decide, eIX, u_4_13, by decide, by decide⟩
      · skip
        refine v_astore (pc := 17) C [(4, .ref qx), (0, .ref (adr L 0 0 0)), (1, .int (iI p)), (2, .int (iI w)), (3, .ref (adr L 20 0 0))] (by decide) rfl dL_playerOf_17 ?_
        refine v_iconst (pc := 19) C dL_playerOf_19 ?_
        exact v_iret (pc := 20) C hr hlk (Or.inr (Or.inr (⟨rfl, rfl, hE⟩))) dL_playerOf_20
  · refine v_i2lw (pc := 8) C dL_playerOf_8 ?_
    refine as_20 (pc := 9) C (by decide) dL_playerOf_9 ?_
    refine v_goto (pc := 10) C 21 (by decide) dL_playerOf_10 ?_
    refine v_iconst (pc := 21) C dL_playerOf_21 ?_
    exact v_iret (pc := 22) C hr hlk (Or.inl ⟨rfl, rr, u0, hP, rfl⟩) dL_playerOf_22
set_option maxHeartbeats 4000000 in
set_option maxRecDepth 100000 in
theorem ct_L_echoOf (l : Launch) (L : Lay) (hfl : l.flags = flags0) (g : St) (n r w : Int) (hI : INV g n) (hrr : rg r) (hrw : rg w) : Met l yL_echoOf (.codeWith yL_echoOf cL_echoOf 5 (some .int) [(0, 10, 13, 15)] :: wsL_law) { frames := 8, cells := 1, slots := 6, locals := 134 } (va_Pc [.ref (adr L 0 0 0), .int (iI r), .int (iI w), .ref (adr L 20 0 0)] (HS L g)) (va_Qi (fun (r9 : Int32) (u : St) => (r9 = iI 0 ∧ ∃ (rr : Int32) (u0 : St), (fun (r9 : Int32) (u9 : St) => r9 = iI (ecN g 0 r w) ∧ u9 = g ∧ (0 ≤ r ∧ (0 ≤ w ∧ w ≤ 5))) rr u0 ∧ u = up u0 20 0 0 0 rr.toInt) ∨ (r9 = iI 1 ∧ u = g ∧ (fun E => E = eIA ∧ ¬ (0 ≤ r ∧ (0 ≤ w ∧ w ≤ 5))) eIA)) (fun u t => HS L u t) (Af L)) 1 6 (Af L) := by
  refine ct_mkH (by decide +kernel) (Nat.le_of_ble_eq_true rfl) ?_
  intro pp ee ss mm bel mth cx C hr hlk htab
  show V pp l ee { frames := 8, cells := 1, slots := 6, locals := 134 } ss mm ([.ref (adr L 0 0 0), .int (iI r), .int (iI w), .ref (adr L 20 0 0)]).toArray bel mth cx 5 L (HH L g) 0 0 _ 0 [(0, .ref (adr L 0 0 0)), (1, .int (iI r)), (2, .int (iI w)), (3, .ref (adr L 20 0 0))] []
  refine v_aload_n (pc := 0) C 3 rfl rfl dL_echoOf_0 ?_
  refine v_iconst (pc := 1) C dL_echoOf_1 ?_
  refine v_aload_n (pc := 2) C 0 rfl rfl dL_echoOf_2 ?_
  refine v_iload_n (pc := 3) C 1 rfl rfl dL_echoOf_3 ?_
  refine v_iload_n (pc := 4) C 2 rfl rfl dL_echoOf_4 ?_
  refine v_tryi (pc := 5) C cw_RL_52 rcv_0 (ct_X6_echoOf l L hfl g r w hrr hrw (INV_wf hI)) ⟨Nat.le_of_ble_eq_true rfl, Nat.le_of_ble_eq_true rfl⟩ rfl (Nat.le_of_ble_eq_true rfl) ⟨Nat.le_of_ble_eq_true rfl, Nat.le_of_ble_eq_true rfl⟩ rfl dL_echoOf_5 (fun E hE => ?_) (fun rr u0 hP => ?_)
  · have hE0 := hE
    obtain ⟨rfl, -⟩ := hE0
    refine ⟨[], ⟨0, 10, 13, 15⟩, [], htab, (fun z hz => absurd hz List.not_mem_nil), by decide, by decide, by decide, u_4_14, fun qx => ?_⟩
    refine v_astore (pc := 13) C [(4, .ref qx), (0, .ref (adr L 0 0 0)), (1, .int (iI r)), (2, .int (iI w)), (3, .ref (adr L 20 0 0))] (by decide) rfl dL_echoOf_13 ?_
    refine v_iconst (pc := 15) C dL_echoOf_15 ?_
    exact v_iret (pc := 16) C hr hlk (Or.inr (⟨rfl, rfl, hE⟩)) dL_echoOf_16
  · refine v_i2lw (pc := 8) C dL_echoOf_8 ?_
    refine as_20 (pc := 9) C (by decide) dL_echoOf_9 ?_
    refine v_goto (pc := 10) C 17 (by decide) dL_echoOf_10 ?_
    refine v_iconst (pc := 17) C dL_echoOf_17 ?_
    exact v_iret (pc := 18) C hr hlk (Or.inl ⟨rfl, rr, u0, hP, rfl⟩) dL_echoOf_18
set_option maxHeartbeats 4000000 in
set_option maxRecDepth 100000 in
theorem ct_L_count (l : Launch) (L : Lay) (hfl : l.flags = flags0) (g : St) (n w : Int) (hI : INV g n) (hrw : rg w) : Met l yL_count (.codeWith yL_count cL_count 4 (some .int) [(0, 9, 12, 15)] :: wsL_law) { frames := 8, cells := 1, slots := 6, locals := 133 } (va_Pc [.ref (adr L 0 0 0), .int (iI w), .ref (adr L 20 0 0)] (HS L g)) (va_Qi (fun (r9 : Int32) (u : St) => (r9 = iI 0 ∧ ∃ (rr : Int32) (u0 : St), (fun (r9 : Int32) (u9 : St) => r9 = iI (ctN g w) ∧ u9 = g ∧ (0 ≤ w ∧ w ≤ 11)) rr u0 ∧ u = up u0 20 0 0 0 rr.toInt) ∨ (r9 = iI 1 ∧ u = g ∧ (fun E => E = eIA ∧ ¬ (0 ≤ w ∧ w ≤ 11)) eIA)) (fun u t => HS L u t) (Af L)) 1 6 (Af L) := by
  refine ct_mkH (by decide +kernel) (Nat.le_of_ble_eq_true rfl) ?_
  intro pp ee ss mm bel mth cx C hr hlk htab
  show V pp l ee { frames := 8, cells := 1, slots := 6, locals := 133 } ss mm ([.ref (adr L 0 0 0), .int (iI w), .ref (adr L 20 0 0)]).toArray bel mth cx 4 L (HH L g) 0 0 _ 0 [(0, .ref (adr L 0 0 0)), (1, .int (iI w)), (2, .ref (adr L 20 0 0))] []
  refine v_aload_n (pc := 0) C 2 rfl rfl dL_count_0 ?_
  refine v_iconst (pc := 1) C dL_count_1 ?_
  refine v_aload_n (pc := 2) C 0 rfl rfl dL_count_2 ?_
  refine v_iload_n (pc := 3) C 1 rfl rfl dL_count_3 ?_
  refine v_tryi (pc := 4) C cw_RL_55 rcv_0 (ct_X6_count l L hfl g w hrw (INV_wf hI)) ⟨Nat.le_of_ble_eq_true rfl, Nat.le_of_ble_eq_true rfl⟩ rfl (Nat.le_of_ble_eq_true rfl) ⟨Nat.le_of_ble_eq_true rfl, Nat.le_of_ble_eq_true rfl⟩ rfl dL_count_4 (fun E hE => ?_) (fun rr u0 hP => ?_)
  · have hE0 := hE
    obtain ⟨rfl, -⟩ := hE0
    refine ⟨[], ⟨0, 9, 12, 15⟩, [], htab, (fun z hz => absurd hz List.not_mem_nil), by decide, by decide, by decide, u_4_14, fun qx => ?_⟩
    refine v_astore_n (pc := 12) C [(3, .ref qx), (0, .ref (adr L 0 0 0)), (1, .int (iI w)), (2, .ref (adr L 20 0 0))] rfl (by decide) rfl dL_count_12 ?_
    refine v_iconst (pc := 13) C dL_count_13 ?_
    exact v_iret (pc := 14) C hr hlk (Or.inr (⟨rfl, rfl, hE⟩)) dL_count_14
  · refine v_i2lw (pc := 7) C dL_count_7 ?_
    refine as_20 (pc := 8) C (by decide) dL_count_8 ?_
    refine v_goto (pc := 9) C 15 (by decide) dL_count_9 ?_
    refine v_iconst (pc := 15) C dL_count_15 ?_
    exact v_iret (pc := 16) C hr hlk (Or.inl ⟨rfl, rr, u0, hP, rfl⟩) dL_count_16
set_option maxHeartbeats 4000000 in
set_option maxRecDepth 100000 in
theorem ct_L_setting (l : Launch) (L : Lay) (hfl : l.flags = flags0) (g : St) (n a : Int) (hI : INV g n) (hra : rg a) : Met l yL_setting (.codeWith yL_setting cL_setting 4 (some .int) [(0, 9, 12, 13)] :: wsL_law) { frames := 8, cells := 1, slots := 6, locals := 131 } (va_Pc [.ref (adr L 0 0 0), .int (iI a), .ref (adr L 20 0 0)] (HS L g)) (va_Qi (fun (r9 : Int32) (u : St) => (r9 = iI 0 ∧ ∃ (rr : Int32) (u0 : St), (fun (r9 : Int32) (u9 : St) => r9 = iI (g 2 0 0 a) ∧ u9 = g ∧ (0 ≤ a ∧ a < 3)) rr u0 ∧ u = up u0 20 0 0 0 rr.toInt) ∨ (r9 = iI 1 ∧ u = g ∧ (fun E => E = eIX ∧ ¬ (0 ≤ a ∧ a < 3)) eIX)) (fun u t => HS L u t) (Af L)) 1 6 (Af L) := by
  refine ct_mkH (by decide +kernel) (Nat.le_of_ble_eq_true rfl) ?_
  intro pp ee ss mm bel mth cx C hr hlk htab
  show V pp l ee { frames := 8, cells := 1, slots := 6, locals := 131 } ss mm ([.ref (adr L 0 0 0), .int (iI a), .ref (adr L 20 0 0)]).toArray bel mth cx 4 L (HH L g) 0 0 _ 0 [(0, .ref (adr L 0 0 0)), (1, .int (iI a)), (2, .ref (adr L 20 0 0))] []
  refine v_aload_n (pc := 0) C 2 rfl rfl dL_setting_0 ?_
  refine v_iconst (pc := 1) C dL_setting_1 ?_
  refine v_aload_n (pc := 2) C 0 rfl rfl dL_setting_2 ?_
  refine v_iload_n (pc := 3) C 1 rfl rfl dL_setting_3 ?_
  refine v_tryi (pc := 4) C cw_RL_58 rcv_0 (ct_X6_setting l L hfl g a hra) ⟨Nat.le_of_ble_eq_true rfl, Nat.le_of_ble_eq_true rfl⟩ rfl (Nat.le_of_ble_eq_true rfl) ⟨Nat.le_of_ble_eq_true rfl, Nat.le_of_ble_eq_true rfl⟩ rfl dL_setting_4 (fun E hE => ?_) (fun rr u0 hP => ?_)
  · have hE0 := hE
    obtain ⟨rfl, -⟩ := hE0
    refine ⟨[], ⟨0, 9, 12, 13⟩, [], htab, (fun z hz => absurd hz List.not_mem_nil), by decide, by decide, by decide, u_4_13, fun qx => ?_⟩
    refine v_astore_n (pc := 12) C [(3, .ref qx), (0, .ref (adr L 0 0 0)), (1, .int (iI a)), (2, .ref (adr L 20 0 0))] rfl (by decide) rfl dL_setting_12 ?_
    refine v_iconst (pc := 13) C dL_setting_13 ?_
    exact v_iret (pc := 14) C hr hlk (Or.inr (⟨rfl, rfl, hE⟩)) dL_setting_14
  · refine v_i2lw (pc := 7) C dL_setting_7 ?_
    refine as_20 (pc := 8) C (by decide) dL_setting_8 ?_
    refine v_goto (pc := 9) C 15 (by decide) dL_setting_9 ?_
    refine v_iconst (pc := 15) C dL_setting_15 ?_
    exact v_iret (pc := 16) C hr hlk (Or.inl ⟨rfl, rr, u0, hP, rfl⟩) dL_setting_16
set_option maxHeartbeats 4000000 in
set_option maxRecDepth 100000 in
theorem ct_L_ballIn (l : Launch) (L : Lay) (hfl : l.flags = flags0) (g : St) (n t w : Int) (hI : INV g n) (hrt : rg t) (hrw : rg w) : Met l yL_ballIn (.codeWith yL_ballIn cL_ballIn 5 (some .int) [(0, 10, 13, 15)] :: wsL_law) { frames := 8, cells := 2, slots := 12, locals := 134 } (va_Pc [.ref (adr L 0 0 0), .int (iI t), .int (iI w), .ref (adr L 20 0 0)] (HS L g)) (va_Qi (fun (r9 : Int32) (u : St) => (r9 = iI 0 ∧ ∃ (rr : Int32) (u0 : St), (fun (r9 : Int32) (u9 : St) => r9 = iI (bnN g t w) ∧ u9 = (bnG g t w) ∧ ((0 ≤ t ∧ t ≤ 99) ∧ (0 ≤ w ∧ w ≤ 2))) rr u0 ∧ u = up u0 20 0 0 0 rr.toInt) ∨ (r9 = iI 1 ∧ u = g ∧ (fun E => E = eIA ∧ ¬ ((0 ≤ t ∧ t ≤ 99) ∧ (0 ≤ w ∧ w ≤ 2))) eIA)) (fun u t => HS L u t) (Af L)) 2 12 (Af L) := by
  refine ct_mkH (by decide +kernel) (Nat.le_of_ble_eq_true rfl) ?_
  intro pp ee ss mm bel mth cx C hr hlk htab
  show V pp l ee { frames := 8, cells := 2, slots := 12, locals := 134 } ss mm ([.ref (adr L 0 0 0), .int (iI t), .int (iI w), .ref (adr L 20 0 0)]).toArray bel mth cx 5 L (HH L g) 0 0 _ 0 [(0, .ref (adr L 0 0 0)), (1, .int (iI t)), (2, .int (iI w)), (3, .ref (adr L 20 0 0))] []
  refine v_aload_n (pc := 0) C 3 rfl rfl dL_ballIn_0 ?_
  refine v_iconst (pc := 1) C dL_ballIn_1 ?_
  refine v_aload_n (pc := 2) C 0 rfl rfl dL_ballIn_2 ?_
  refine v_iload_n (pc := 3) C 1 rfl rfl dL_ballIn_3 ?_
  refine v_iload_n (pc := 4) C 2 rfl rfl dL_ballIn_4 ?_
  refine v_tryi (pc := 5) C cw_RL_61 rcv_0 (ct_X6_ballIn l L hfl g t w hrt hrw (INV_wf hI)) ⟨Nat.le_of_ble_eq_true rfl, Nat.le_of_ble_eq_true rfl⟩ rfl (Nat.le_of_ble_eq_true rfl) ⟨Nat.le_of_ble_eq_true rfl, Nat.le_of_ble_eq_true rfl⟩ rfl dL_ballIn_5 (fun E hE => ?_) (fun rr u0 hP => ?_)
  · have hE0 := hE
    obtain ⟨rfl, -⟩ := hE0
    refine ⟨[], ⟨0, 10, 13, 15⟩, [], htab, (fun z hz => absurd hz List.not_mem_nil), by decide, by decide, by decide, u_4_14, fun qx => ?_⟩
    refine v_astore (pc := 13) C [(4, .ref qx), (0, .ref (adr L 0 0 0)), (1, .int (iI t)), (2, .int (iI w)), (3, .ref (adr L 20 0 0))] (by decide) rfl dL_ballIn_13 ?_
    refine v_iconst (pc := 15) C dL_ballIn_15 ?_
    exact v_iret (pc := 16) C hr hlk (Or.inr (⟨rfl, rfl, hE⟩)) dL_ballIn_16
  · refine v_i2lw (pc := 8) C dL_ballIn_8 ?_
    refine as_20 (pc := 9) C (by decide) dL_ballIn_9 ?_
    refine v_goto (pc := 10) C 17 (by decide) dL_ballIn_10 ?_
    refine v_iconst (pc := 17) C dL_ballIn_17 ?_
    exact v_iret (pc := 18) C hr hlk (Or.inl ⟨rfl, rr, u0, hP, rfl⟩) dL_ballIn_18
set_option maxHeartbeats 4000000 in
set_option maxRecDepth 100000 in
theorem ct_L_echoIn (l : Launch) (L : Lay) (hfl : l.flags = flags0) (g : St) (n p w : Int) (hI : INV g n) (hrp : rg p) (hrw : rg w) : Met l yL_echoIn (.codeWith yL_echoIn cL_echoIn 5 (some .int) [(0, 10, 13, 13), (0, 10, 17, 15)] :: wsL_law) { frames := 8, cells := 2, slots := 12, locals := 134 } (va_Pc [.ref (adr L 0 0 0), .int (iI p), .int (iI w), .ref (adr L 20 0 0)] (HS L g)) (va_Qi (fun (r9 : Int32) (u : St) => (r9 = iI 0 ∧ ∃ (rr : Int32) (u0 : St), (fun (r9 : Int32) (u9 : St) => r9 = iI (eT g 0 (g 6 0 p 0) w) ∧ u9 = g ∧ ((0 ≤ p ∧ p < 4) ∧ (0 ≤ w ∧ w ≤ 1))) rr u0 ∧ u = up u0 20 0 0 0 rr.toInt) ∨ (r9 = iI 1 ∧ u = g ∧ (fun E => (E = eIX ∧ ¬ (0 ≤ p ∧ p < 4)) ∨ (E = eIA ∧ (0 ≤ p ∧ p < 4) ∧ ¬ (0 ≤ w ∧ w ≤ 1))) eIX) ∨ (r9 = iI 2 ∧ u = g ∧ (fun E => (E = eIX ∧ ¬ (0 ≤ p ∧ p < 4)) ∨ (E = eIA ∧ (0 ≤ p ∧ p < 4) ∧ ¬ (0 ≤ w ∧ w ≤ 1))) eIA)) (fun u t => HS L u t) (Af L)) 2 12 (Af L) := by
  refine ct_mkH (by decide +kernel) (Nat.le_of_ble_eq_true rfl) ?_
  intro pp ee ss mm bel mth cx C hr hlk htab
  show V pp l ee { frames := 8, cells := 2, slots := 12, locals := 134 } ss mm ([.ref (adr L 0 0 0), .int (iI p), .int (iI w), .ref (adr L 20 0 0)]).toArray bel mth cx 5 L (HH L g) 0 0 _ 0 [(0, .ref (adr L 0 0 0)), (1, .int (iI p)), (2, .int (iI w)), (3, .ref (adr L 20 0 0))] []
  refine v_aload_n (pc := 0) C 3 rfl rfl dL_echoIn_0 ?_
  refine v_iconst (pc := 1) C dL_echoIn_1 ?_
  refine v_aload_n (pc := 2) C 0 rfl rfl dL_echoIn_2 ?_
  refine v_iload_n (pc := 3) C 1 rfl rfl dL_echoIn_3 ?_
  refine v_iload_n (pc := 4) C 2 rfl rfl dL_echoIn_4 ?_
  refine v_tryi (pc := 5) C cw_RL_64 rcv_0 (ct_X6_echoIn l L hfl g p w hrp hrw (INV_wf hI)) ⟨Nat.le_of_ble_eq_true rfl, Nat.le_of_ble_eq_true rfl⟩ rfl (Nat.le_of_ble_eq_true rfl) ⟨Nat.le_of_ble_eq_true rfl, Nat.le_of_ble_eq_true rfl⟩ rfl dL_echoIn_5 (fun E hE => ?_) (fun rr u0 hP => ?_)
  · have hE0 := hE
    rcases hE0 with ⟨rfl, -⟩ | ⟨rfl, -⟩
    · skip
      refine ⟨[], ⟨0, 10, 13, 13⟩, [⟨0, 10, 17, 15⟩], htab, (fun z hz => absurd hz List.not_mem_nil), by decide, by decide, by decide, u_4_13, fun qx => ?_⟩
      refine v_astore (pc := 13) C [(4, .ref qx), (0, .ref (adr L 0 0 0)), (1, .int (iI p)), (2, .int (iI w)), (3, .ref (adr L 20 0 0))] (by decide) rfl dL_echoIn_13 ?_
      refine v_iconst (pc := 15) C dL_echoIn_15 ?_
      exact v_iret (pc := 16) C hr hlk (Or.inr (Or.inl ⟨rfl, rfl, hE⟩)) dL_echoIn_16
    · skip
      refine ⟨[⟨0, 10, 13, 13⟩], ⟨0, 10, 17, 15⟩, [], htab, (fun z hz => ?_), by decide, by decide, by decide, u_4_14, fun qx => ?_⟩
      · skip
        simp only [List.mem_cons, List.not_mem_nil, or_false] at hz
        subst hz
        exact ⟨by decide, eIX, u_4_13, by decide, by decide⟩
      · skip
        refine v_astore (pc := 17) C [(4, .ref qx), (0, .ref (adr L 0 0 0)), (1, .int (iI p)), (2, .int (iI w)), (3, .ref (adr L 20 0 0))] (by decide) rfl dL_echoIn_17 ?_
        refine v_iconst (pc := 19) C dL_echoIn_19 ?_
        exact v_iret (pc := 20) C hr hlk (Or.inr (Or.inr (⟨rfl, rfl, hE⟩))) dL_echoIn_20
  · refine v_i2lw (pc := 8) C dL_echoIn_8 ?_
    refine as_20 (pc := 9) C (by decide) dL_echoIn_9 ?_
    refine v_goto (pc := 10) C 21 (by decide) dL_echoIn_10 ?_
    refine v_iconst (pc := 21) C dL_echoIn_21 ?_
    exact v_iret (pc := 22) C hr hlk (Or.inl ⟨rfl, rr, u0, hP, rfl⟩) dL_echoIn_22
set_option maxHeartbeats 4000000 in
set_option maxRecDepth 100000 in
theorem ct_L_wouldClash (l : Launch) (L : Lay) (hfl : l.flags = flags0) (g : St) (n p w : Int) (hI : INV g n) (hrp : rg p) (hrw : rg w) : Met l yL_wouldClash (.codeWith yL_wouldClash cL_wouldClash 5 (some .int) [(0, 10, 13, 13), (0, 10, 17, 15)] :: wsL_law) { frames := 8, cells := 2, slots := 12, locals := 134 } (va_Pc [.ref (adr L 0 0 0), .int (iI p), .int (iI w), .ref (adr L 20 0 0)] (HS L g)) (va_Qi (fun (r9 : Int32) (u : St) => (r9 = iI 0 ∧ ∃ (rr : Int32) (u0 : St), (fun (r9 : Int32) (u9 : St) => r9 = iI (if eT g 0 (g 6 0 p 0) w = eT g 0 (g 6 0 p 0) (1 - w) ∨ eDue g 0 (g 6 0 p 0) (g 1 0 0 0 + eT g 0 (g 6 0 p 0) w) then 1 else 0) ∧ u9 = g ∧ ((0 ≤ p ∧ p < 4) ∧ (0 ≤ w ∧ w ≤ 1))) rr u0 ∧ u = up u0 20 0 0 0 rr.toInt) ∨ (r9 = iI 1 ∧ u = g ∧ (fun E => (E = eIX ∧ ¬ (0 ≤ p ∧ p < 4)) ∨ (E = eIA ∧ (0 ≤ p ∧ p < 4) ∧ ¬ (0 ≤ w ∧ w ≤ 1))) eIX) ∨ (r9 = iI 2 ∧ u = g ∧ (fun E => (E = eIX ∧ ¬ (0 ≤ p ∧ p < 4)) ∨ (E = eIA ∧ (0 ≤ p ∧ p < 4) ∧ ¬ (0 ≤ w ∧ w ≤ 1))) eIA)) (fun u t => HS L u t) (Af L)) 2 12 (Af L) := by
  refine ct_mkH (by decide +kernel) (Nat.le_of_ble_eq_true rfl) ?_
  intro pp ee ss mm bel mth cx C hr hlk htab
  show V pp l ee { frames := 8, cells := 2, slots := 12, locals := 134 } ss mm ([.ref (adr L 0 0 0), .int (iI p), .int (iI w), .ref (adr L 20 0 0)]).toArray bel mth cx 5 L (HH L g) 0 0 _ 0 [(0, .ref (adr L 0 0 0)), (1, .int (iI p)), (2, .int (iI w)), (3, .ref (adr L 20 0 0))] []
  refine v_aload_n (pc := 0) C 3 rfl rfl dL_wouldClash_0 ?_
  refine v_iconst (pc := 1) C dL_wouldClash_1 ?_
  refine v_aload_n (pc := 2) C 0 rfl rfl dL_wouldClash_2 ?_
  refine v_iload_n (pc := 3) C 1 rfl rfl dL_wouldClash_3 ?_
  refine v_iload_n (pc := 4) C 2 rfl rfl dL_wouldClash_4 ?_
  refine v_tryi (pc := 5) C cw_RL_67 rcv_0 (ct_X6_wouldClash l L hfl g p w hrp hrw (INV_wf hI)) ⟨Nat.le_of_ble_eq_true rfl, Nat.le_of_ble_eq_true rfl⟩ rfl (Nat.le_of_ble_eq_true rfl) ⟨Nat.le_of_ble_eq_true rfl, Nat.le_of_ble_eq_true rfl⟩ rfl dL_wouldClash_5 (fun E hE => ?_) (fun rr u0 hP => ?_)
  · have hE0 := hE
    rcases hE0 with ⟨rfl, -⟩ | ⟨rfl, -⟩
    · skip
      refine ⟨[], ⟨0, 10, 13, 13⟩, [⟨0, 10, 17, 15⟩], htab, (fun z hz => absurd hz List.not_mem_nil), by decide, by decide, by decide, u_4_13, fun qx => ?_⟩
      refine v_astore (pc := 13) C [(4, .ref qx), (0, .ref (adr L 0 0 0)), (1, .int (iI p)), (2, .int (iI w)), (3, .ref (adr L 20 0 0))] (by decide) rfl dL_wouldClash_13 ?_
      refine v_iconst (pc := 15) C dL_wouldClash_15 ?_
      exact v_iret (pc := 16) C hr hlk (Or.inr (Or.inl ⟨rfl, rfl, hE⟩)) dL_wouldClash_16
    · skip
      refine ⟨[⟨0, 10, 13, 13⟩], ⟨0, 10, 17, 15⟩, [], htab, (fun z hz => ?_), by decide, by decide, by decide, u_4_14, fun qx => ?_⟩
      · skip
        simp only [List.mem_cons, List.not_mem_nil, or_false] at hz
        subst hz
        exact ⟨by decide, eIX, u_4_13, by decide, by decide⟩
      · skip
        refine v_astore (pc := 17) C [(4, .ref qx), (0, .ref (adr L 0 0 0)), (1, .int (iI p)), (2, .int (iI w)), (3, .ref (adr L 20 0 0))] (by decide) rfl dL_wouldClash_17 ?_
        refine v_iconst (pc := 19) C dL_wouldClash_19 ?_
        exact v_iret (pc := 20) C hr hlk (Or.inr (Or.inr (⟨rfl, rfl, hE⟩))) dL_wouldClash_20
  · refine v_i2lw (pc := 8) C dL_wouldClash_8 ?_
    refine as_20 (pc := 9) C (by decide) dL_wouldClash_9 ?_
    refine v_goto (pc := 10) C 21 (by decide) dL_wouldClash_10 ?_
    refine v_iconst (pc := 21) C dL_wouldClash_21 ?_
    exact v_iret (pc := 22) C hr hlk (Or.inl ⟨rfl, rr, u0, hP, rfl⟩) dL_wouldClash_22
set_option maxHeartbeats 4000000 in
set_option maxRecDepth 100000 in
theorem ct_L_callIn (l : Launch) (L : Lay) (hfl : l.flags = flags0) (g : St) (n p : Int) (hI : INV g n) (hrp : rg p) : Met l yL_callIn (.codeWith yL_callIn cL_callIn 4 (some .int) [(0, 9, 12, 13)] :: wsL_law) { frames := 8, cells := 1, slots := 6, locals := 131 } (va_Pc [.ref (adr L 0 0 0), .int (iI p), .ref (adr L 20 0 0)] (HS L g)) (va_Qi (fun (r9 : Int32) (u : St) => (r9 = iI 0 ∧ ∃ (rr : Int32) (u0 : St), (fun (r9 : Int32) (u9 : St) => r9 = iI (if eT g 0 (g 6 0 p 0) 0 = eT g 0 (g 6 0 p 0) 1 then -1 else frst (pW g 0 (g 6 0 p 0)) 61 0) ∧ u9 = g ∧ (0 ≤ p ∧ p < 4)) rr u0 ∧ u = up u0 20 0 0 0 rr.toInt) ∨ (r9 = iI 1 ∧ u = g ∧ (fun E => E = eIX ∧ ¬ (0 ≤ p ∧ p < 4)) eIX)) (fun u t => HS L u t) (Af L)) 1 6 (Af L) := by
  refine ct_mkH (by decide +kernel) (Nat.le_of_ble_eq_true rfl) ?_
  intro pp ee ss mm bel mth cx C hr hlk htab
  show V pp l ee { frames := 8, cells := 1, slots := 6, locals := 131 } ss mm ([.ref (adr L 0 0 0), .int (iI p), .ref (adr L 20 0 0)]).toArray bel mth cx 4 L (HH L g) 0 0 _ 0 [(0, .ref (adr L 0 0 0)), (1, .int (iI p)), (2, .ref (adr L 20 0 0))] []
  refine v_aload_n (pc := 0) C 2 rfl rfl dL_callIn_0 ?_
  refine v_iconst (pc := 1) C dL_callIn_1 ?_
  refine v_aload_n (pc := 2) C 0 rfl rfl dL_callIn_2 ?_
  refine v_iload_n (pc := 3) C 1 rfl rfl dL_callIn_3 ?_
  refine v_tryi (pc := 4) C cw_RL_70 rcv_0 (ct_X6_callIn l L hfl g p hrp (INV_wf hI)) ⟨Nat.le_of_ble_eq_true rfl, Nat.le_of_ble_eq_true rfl⟩ rfl (Nat.le_of_ble_eq_true rfl) ⟨Nat.le_of_ble_eq_true rfl, Nat.le_of_ble_eq_true rfl⟩ rfl dL_callIn_4 (fun E hE => ?_) (fun rr u0 hP => ?_)
  · have hE0 := hE
    obtain ⟨rfl, -⟩ := hE0
    refine ⟨[], ⟨0, 9, 12, 13⟩, [], htab, (fun z hz => absurd hz List.not_mem_nil), by decide, by decide, by decide, u_4_13, fun qx => ?_⟩
    refine v_astore_n (pc := 12) C [(3, .ref qx), (0, .ref (adr L 0 0 0)), (1, .int (iI p)), (2, .ref (adr L 20 0 0))] rfl (by decide) rfl dL_callIn_12 ?_
    refine v_iconst (pc := 13) C dL_callIn_13 ?_
    exact v_iret (pc := 14) C hr hlk (Or.inr (⟨rfl, rfl, hE⟩)) dL_callIn_14
  · refine v_i2lw (pc := 7) C dL_callIn_7 ?_
    refine as_20 (pc := 8) C (by decide) dL_callIn_8 ?_
    refine v_goto (pc := 9) C 15 (by decide) dL_callIn_9 ?_
    refine v_iconst (pc := 15) C dL_callIn_15 ?_
    exact v_iret (pc := 16) C hr hlk (Or.inl ⟨rfl, rr, u0, hP, rfl⟩) dL_callIn_16
