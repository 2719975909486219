def sx (xs : Nat → Int32) (a : Int) : Int := (xs a.toNat).toInt
theorem sx_rg (xs : Nat → Int32) (a : Int) : rg (sx xs a) := iI_rg _
/-! the law's helpers: a call that may throw, and what catches it -/
theorem m_ofWH {l : Launch} {y : MethodName} {ws ws' : List Cond} {rm : Room} {Pc : Array Value → State → Prop} {Qc : Array Value → State → Outcome → State → Prop} {mc ms : Nat} {free : Addr → Prop} {cc : ByteArray} {maxL : Nat} {ret : Option FieldType} {hh : List (Nat × Nat × Nat × Nat)}
    (hy : plainName y.cls = true) (hw : ws = Cond.codeWith y cc maxL ret hh :: ws')
    (body : ∀ p e s m args below meth c s₁, BodyLoose p l y (headSpec ws rm) cc maxL ret e s m args below meth c s₁ → c.maxLocals = maxL → Pc args s →
      W p l e (headSpec ws rm).room s m args below meth c s.heap [] 0 0 (MQ below Qc args s mc ms free) (entryFrame m args maxL)) : Met l y ws rm Pc Qc mc ms free := by
  refine MetFree.of_bodyS (code := cc) (maxLocals := maxL) (ret := ret) hy ?_ ?_
  · intro args s m h hn
    obtain ⟨m9, meth, c, hn9, h1, h2, h3, h4, -, h5, h6, -⟩ := Cond.codeWith_spec (atoms_spec (ws := ws) h _ (by rw [hw]; exact List.mem_cons_self))
    cases hn.symm.trans hn9
    exact ⟨meth, c, h1, h2, h3, h4, h5, h6⟩
  · intro p e s m args below meth c s₁ B hml hP _
    have hh0 : s₁.heap = s.heap := by rw [B.state]; rfl
    obtain ⟨t, a1, o, b1, b2, b3⟩ := body p e s m args below meth c s₁ B hml hP s₁ hh0 (Stand.of_body B)
    exact ⟨t, o, a1, b1, b2, ⟨b3.1, b3.2⟩⟩
theorem ct_mkH {l : Launch} {y : MethodName} {cc : ByteArray} {maxL : Nat} {ret : Option FieldType} {hh : List (Nat × Nat × Nat × Nat)} {rm : Room} {As : List Value} {L : Lay} {g : St} {Qc : Array Value → State → Outcome → State → Prop} {mc ms : Nat} (hy : plainName y.cls = true) (hlen : (lg_sl As).length ≤ maxL)
    (body : ∀ (p : Program) (e : Env) (s : State) (m : MethodId) (below : List Frame) (meth : Method) (c : Code), Cx p s m As.toArray c cc maxL y.cls L → meth.sig.returnType = ret → meth.locks = false → c.exceptionTable.toList = tableOf hh → V p l e rm s m As.toArray below meth c maxL L (HH L g) 0 0 (MQ below Qc As.toArray s mc ms (Af L)) 0 (lv_args 0 As) []) :
    Met l y (.codeWith y cc maxL ret hh :: wsL_law) rm (va_Pc As (HS L g)) Qc mc ms (Af L) := by
  refine m_ofWH (cc := cc) (maxL := maxL) (ret := ret) (hh := hh) hy rfl ?_
  intro p e s m args below meth c s₁ B hml hv
  obtain ⟨rfl, hH, hSm⟩ := hv
  have hts := atoms_spec (ws := .codeWith y cc maxL ret hh :: wsL_law) B.pre
  have htab := vx_table (x := y) B (hts _ List.mem_cons_self)
  have hown : s.vm.findClass y.cls = some m.cls := findClass_of_methodNamed B.named
  have hl := lv_entry As (n := maxL) hlen
  rw [lg_entry_eq]
  exact body p e s m below meth c ⟨B.exec, B.bytes, hml, hown, fun w h => hts w (List.mem_cons_of_mem _ h), hSm⟩ B.returns B.notSynchronized htab s.heap [] _ hH va_S.rf hl
section VH
variable {p : Program} {l : Launch} {e : Env} {R : Room} {s : State} {m : MethodId} {args : Array Value} {below : List Frame} {meth : Method} {c : Code} {cells slots : Nat} {Q : State → Prop} {cc : ByteArray} {nL : Nat} {own : String} {L : Lay} {g : St} {pc : Nat} {lv : List (Nat × Value)} {st : List Value}
variable {ix n maxL fr lo mc ms : Nat} {Cn : String} {y : MethodName} {bytes : ByteArray} {ret : Option FieldType} {rm : Room}
theorem v_tryi (C : Cx p s m args c cc nL own L) {P : Int32 → St → Prop} {Ex : String → Prop} {As st0 : List Value} (w : CW own ix Cn y bytes maxL ret n) {f : Nat} {k j : Int} (hr : Rcv L g f k j Cn) (hM : vx_Met l y (.code y bytes maxL ret :: wsL_law) { frames := fr, cells := mc, slots := ms, locals := lo } (va_Pc (.ref (adr L f k j) :: As) (HS L g)) (va_Qi P (fun u t => HS L u t) (Af L)) (XX L g Ex) mc ms (Af L)) (hR : fr + 1 ≤ R.frames ∧ 8 + (maxL + 11) + lo ≤ R.locals) (hn : As.length = n) (hst : (st.map fun v => v.category).sum ≤ 8) (hcs : cells + mc ≤ R.cells ∧ slots + ms ≤ R.slots) (h0 : st0 = As.reverse ++ .ref (adr L f k j) :: st) (hdg : decode cc pc = .ok (.invokevirtual ix, 3))
    (kx : ∀ E, Ex E → ∃ (pre : List ExceptionTableEntry) (x : ExceptionTableEntry) (suf : List ExceptionTableEntry), c.exceptionTable.toList = pre ++ x :: suf ∧ (∀ z ∈ pre, z.catchType ≠ 0 ∧ ∃ nm : String, Cond.classLink own z.catchType nm ∈ wsL_law ∧ nm ∈ exs ∧ E ≠ nm) ∧ covers x pc = true ∧ x.catchType ≠ 0 ∧ E ∈ exs ∧ Cond.classLink own x.catchType E ∈ wsL_law ∧ ∀ q : Nat, V p l e R s m args below meth c nL L (HH L g) (cells + mc) (slots + ms) Q x.handlerPc lv [.ref q])
    (kk : ∀ (r : Int32) (u : St), P r u → V p l e R s m args below meth c nL L (HH L u) (cells + mc) (slots + ms) Q (pc + 3) lv (.int r :: st)) : V p l e R s m args below meth c nL L (HH L g) cells slots Q pc lv st0 := by
  subst h0
  intro H locs ls hI hS hl
  exact vx_calli (vx_runV (As := As) (rest := st) (Ts := wsL_law) ⟨C.1, C.2.1, C.2.2.1, C.2.2.2.1, C.2.2.2.2.1⟩ hM (w.W C rfl rfl hR) ⟨HS.blind, hr.at C hI, pre_of C hI hS⟩ rfl hn hl.1 rfl (lv_room hst) hdg hcs) hS (fun _ _ h => h) (fun _ h => h) (fun _ _ h => h)
    (fun E ce q9 u t H1 locs1 ht hA hp hB _ _ hS1 hce hcv hcl => by
      obtain ⟨pre, x, suf, hsp, hps, hcov, h0, hE, hlk, kv⟩ := kx E hB.1
      obtain ⟨hx, hb, hml, hown, hts, hK, ⟨z1, -, hstr, hca, hnc, hdc⟩, hz⟩ := C
      refine vx_catch hown pre x suf hsp (fun z hz => ?_) hcov h0 (hts _ hlk) (va_Nw.use rfl (hca _ hE)) hce hcv hcl (kv q9 H1 locs1 ls (by rw [← ht]; exact hB.2) hS1 hl)
      obtain ⟨h1, nm, h2, h3, h4⟩ := hps z hz
      exact Or.inr ⟨h1, nm, hts _ h2, hnc _ hE _ h3 h4⟩)
    (fun r u t H1 locs1 ht hA hp hB _ _ hS1 => kk r u hp H1 locs1 ls (by rw [← ht]; exact hB.1) hS1 hl)
/-- how a helper is linked -/
def CWh (own : String) (ix : Nat) (y : MethodName) (bytes : ByteArray) (maxL : Nat) (ret : Option FieldType) (hh : List (Nat × Nat × Nat × Nat)) (n : Nat) : Prop :=
  Cond.methodLink own ix y ∈ wsL_law ∧ Cond.static y ∈ wsL_law ∧ Cond.initialized y.cls ∈ wsL_law ∧ Cond.codeWith y bytes maxL ret hh ∈ wsL_law ∧ (y.cls ≠ "java/lang/invoke/MethodHandle" ∧ y.cls ≠ "java/lang/invoke/VarHandle" ∧ (parseMethodDescriptor y.desc).map (fun d => d.parameters.length) = some n)
theorem CWh.W (C : Cx p s m args c cc nL own L) {hh : List (Nat × Nat × Nat × Nat)} (w : CWh own ix y bytes maxL ret hh n) (hrc : rm.cells = mc) (hrs : rm.slots = ms) (hR : rm.frames + 1 ≤ R.frames ∧ 8 + (maxL + 11) + rm.locals ≤ R.locals) : vx_CSW R s args own ix y bytes maxL ret hh (.codeWith y bytes maxL ret hh :: wsL_law) rm mc ms n := by
  obtain ⟨w1, w2, w3, w4, w5⟩ := w
  refine vx_cwSW n C.2.2.2.2.1 (fun w h => ?_) rfl hrc hrs w5 hR
  have hm : w ∈ wsL_law := by
    simp only [va_wsS, List.cons_append, List.nil_append, List.mem_cons] at h
    rcases h with rfl | rfl | rfl | rfl | h
    · exact w1
    · exact w2
    · exact w3
    · exact w4
    · exact h
  exact ⟨hm, gU w hm⟩
theorem v_calliH (C : Cx p s m args c cc nL own L) {hh : List (Nat × Nat × Nat × Nat)} {P : Int32 → St → Prop} {As st0 : List Value} (w : CWh own ix y bytes maxL ret hh n) (hM : Met l y (.codeWith y bytes maxL ret hh :: wsL_law) { frames := fr, cells := mc, slots := ms, locals := lo } (va_Pc As (HS L g)) (va_Qi P (fun u t => HS L u t) (Af L)) mc ms (Af L)) (hR : fr + 1 ≤ R.frames ∧ 8 + (maxL + 11) + lo ≤ R.locals) (hn : As.length = n) (hst : (st.map fun v => v.category).sum ≤ 8) (hcs : cells + mc ≤ R.cells ∧ slots + ms ≤ R.slots) (h0 : st0 = As.reverse ++ st) (hdg : decode cc pc = .ok (.invokestatic ix, 3)) (kk : ∀ (r : Int32) (u : St), P r u → V p l e R s m args below meth c nL L (HH L u) (cells + mc) (slots + ms) Q (pc + 3) lv (.int r :: st)) : V p l e R s m args below meth c nL L (HH L g) cells slots Q pc lv st0 := by
  subst h0
  intro H locs ls hI hS hl
  exact va_calli (vx_runSW (As := As) (rest := st) (Ts := wsL_law) ⟨C.1, C.2.1, C.2.2.1, C.2.2.2.1, C.2.2.2.2.1⟩ hM (w.W C rfl rfl hR) ⟨HS.blind, pre_of C hI hS⟩ rfl hn hl.1 rfl (lv_room hst) hdg hcs) hS (fun _ _ h => h) (fun _ h => h) (fun r u t H1 locs1 ht hA hp hB _ _ hS1 => kk r u hp H1 locs1 ls (by rw [← ht]; exact hB.1) hS1 hl)
theorem v_i2lw (C : Cx p s m args c cc nL own L) {r : Int32} (hdg : decode cc pc = .ok (.i2l, 1)) (k : V p l e R s m args below meth c nL L (HH L g) cells slots Q (pc + 1) lv (.long (lI r.toInt) :: st)) : V p l e R s m args below meth c nL L (HH L g) cells slots Q pc lv (.int r :: st) := by
  have h := v_i2l (a := r.toInt) C (iI_rg r) hdg k
  rw [iI_of] at h
  exact h
theorem v_iandz (C : Cx p s m args c cc nL own L) {a b : Int} (hdg : decode cc pc = .ok (.iand, 1)) (k : V p l e R s m args below meth c nL L (HH L g) cells slots Q (pc + 1) lv (.int (iI (iI a &&& iI b).toInt) :: st)) : V p l e R s m args below meth c nL L (HH L g) cells slots Q pc lv (.int (iI b) :: .int (iI a) :: st) := fun H locs ls hI hS hl => by
  have k := k H locs ls hI hS hl
  rw [iI_of] at k
  exact lv_iand C.1 C.2.1 hdg k
theorem v_ishrz (C : Cx p s m args c cc nL own L) {x y : Int32} (hdg : decode cc pc = .ok (.ishr, 1)) (k : ∀ z : Int, rg z → V p l e R s m args below meth c nL L (HH L g) cells slots Q (pc + 1) lv (.int (iI z) :: st)) : V p l e R s m args below meth c nL L (HH L g) cells slots Q pc lv (.int y :: .int x :: st) := fun H locs ls hI hS hl => lv_ishr C.1 C.2.1 hdg (by
  have k := k (x >>> (y &&& 31)).toInt (iI_rg _) H locs ls hI hS hl
  rw [iI_of] at k
  exact k)
theorem v_sc {g2 : St} (h : g = g2) (kk : V p l e R s m args below meth c nL L (HH L g2) cells slots Q pc lv st) : V p l e R s m args below meth c nL L (HH L g) cells slots Q pc lv st := h ▸ kk
theorem v_widen {k n : Nat} (h1 : cells ≤ k) (h2 : slots ≤ n) (kk : V p l e R s m args below meth c nL L (HH L g) k n Q pc lv st) : V p l e R s m args below meth c nL L (HH L g) cells slots Q pc lv st := fun H locs ls hI hS hl => W.widen h1 h2 (kk H locs ls hI hS hl)
theorem v_sld (C : Cx p s m args c cc nL own L) {b Ls : Nat} {xs : Nat → Int32} (hX : va_X b Ls xs s s.heap) (hb : b < s.heap.size) (hbA : ¬ Af L b) {a : Int} (h : 0 ≤ a ∧ a < Ls) (hLs : Ls < 2147483648) (hdg : decode cc pc = .ok (.iaload, 1)) (kk : V p l e R s m args below meth c nL L (HH L g) cells slots Q (pc + 1) lv (.int (iI (sx xs a)) :: st)) : V p l e R s m args below meth c nL L (HH L g) cells slots Q pc lv (.int (iI a) :: .ref b :: st) := by
  intro H locs ls hI hS hl
  refine va_sld C.1 C.2.1 hX hb hbA hS (iI_ix h.1 h.2 hLs) hdg ?_
  have k := kk H locs ls hI hS hl
  unfold sx at k
  rw [iI_of] at k
  rw [iI_nat ⟨by omega, by omega⟩]; exact k
theorem v_slen (C : Cx p s m args c cc nL own L) {b Ls : Nat} {xs : Nat → Int32} (hX : va_X b Ls xs s s.heap) (hb : b < s.heap.size) (hbA : ¬ Af L b) (hdg : decode cc pc = .ok (.arraylength, 1)) (kk : V p l e R s m args below meth c nL L (HH L g) cells slots Q (pc + 1) lv (.int (iI (Ls : Int)) :: st)) : V p l e R s m args below meth c nL L (HH L g) cells slots Q pc lv (.ref b :: st) := by
  intro H locs ls hI hS hl
  refine va_slen C.1 C.2.1 hX hb hbA hS hdg ?_
  rw [← Int32.ofInt_eq_ofNat]; exact kk H locs ls hI hS hl
theorem v_iand (C : Cx p s m args c cc nL own L) {x y : Int32} (hdg : decode cc pc = .ok (.iand, 1)) (kk : V p l e R s m args below meth c nL L (HH L g) cells slots Q (pc + 1) lv (.int (x &&& y) :: st)) : V p l e R s m args below meth c nL L (HH L g) cells slots Q pc lv (.int y :: .int x :: st) := fun H locs ls hI hS hl => lv_iand C.1 C.2.1 hdg (kk H locs ls hI hS hl)
end VH
