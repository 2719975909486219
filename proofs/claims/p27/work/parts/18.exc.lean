/-! methods that may throw -/
/-- thrown: by a class that is told; the world is as it was -/
def XX (L : Lay) (g : St) (Ex : String → Prop) : String → State → State → Prop := vx_X (fun _ : Unit => True) (fun E _ t => Ex E ∧ HH L g t.heap) (Af L)
theorem ct_mkX {l : Launch} {y : MethodName} {cc : ByteArray} {maxL : Nat} {ret : Option FieldType} {rm : Room} {As : List Value} {L : Lay} {g : St} {Qc : Array Value → State → Outcome → State → Prop} {XC : String → State → State → Prop} {mc ms : Nat} (hy : plainName y.cls = true) (hlen : (lg_sl As).length ≤ maxL)
    (body : ∀ (p : Program) (e : Env) (s : State) (m : MethodId) (below : List Frame) (meth : Method) (c : Code), Cx p s m As.toArray c cc maxL y.cls L → meth.sig.returnType = ret → meth.locks = false → (∀ x ∈ c.exceptionTable.toList, False) → V p l e rm s m As.toArray below meth c maxL L (HH L g) 0 0 (vx_MQ below Qc XC As.toArray s mc ms (Af L)) 0 (lv_args 0 As) []) :
    vx_Met l y (.code y cc maxL ret :: wsL_law) rm (va_Pc As (HS L g)) Qc XC mc ms (Af L) := by
  refine vx_ofW (cc := cc) (maxL := maxL) (ret := ret) hy rfl ?_
  intro p e s m args below meth c s₁ B hml htab hv
  obtain ⟨rfl, hH, hSm⟩ := hv
  have hts := atoms_spec (ws := .code y cc maxL ret :: wsL_law) B.pre
  have hown : s.vm.findClass y.cls = some m.cls := findClass_of_methodNamed B.named
  have hl := lv_entry As (n := maxL) hlen
  rw [lg_entry_eq]
  exact body p e s m below meth c ⟨B.exec, B.bytes, hml, hown, fun w h => hts w (List.mem_cons_of_mem _ h), hSm⟩ B.returns B.notSynchronized htab s.heap [] _ hH va_S.rf hl
theorem fl_st {l : Launch} (h : l.flags = flags0) : l.stackTraces = false := by unfold Launch.stackTraces; rw [h]; decide +kernel
/-- how a class of exceptions is linked -/
def TW (cls : String) (ik ic : Nat) : Prop := Bundle.fit cls = true ∧ Cond.classLink RX6 ik cls ∈ wsL_law ∧ Cond.initialized cls ∈ wsL_law ∧ cls ∈ exs ∧ (∀ w ∈ (vx_atS RX6 ic cls ["java/lang/RuntimeException", "java/lang/Exception"]).filter goodWord, w ∈ wsL_law) ∧ (∀ w ∈ (vx_atS RX6 ic cls ["java/lang/RuntimeException", "java/lang/Exception"]).filter (fun w => !goodWord w), w ∈ [Cond.castable cls cls, .declares (Bundle.initS "java/lang/RuntimeException"), .declares (Bundle.initS "java/lang/Exception"), .declares (Bundle.initS Bundle.tN)]) ∧ (∀ w ∈ Cond.classLink RX6 ik cls :: Cond.initialized cls :: vx_atS RX6 ic cls ["java/lang/RuntimeException", "java/lang/Exception"], vx_ot w = true)
section VX
variable {p : Program} {l : Launch} {e : Env} {R : Room} {s : State} {m : MethodId} {args : Array Value} {below : List Frame} {meth : Method} {c : Code} {cells slots : Nat} {cc : ByteArray} {nL : Nat} {own : String} {L : Lay} {g : St} {pc : Nat} {lv : List (Nat × Value)} {st : List Value}
variable {ix n maxL fr lo mc ms mc1 ms1 : Nat} {Cn : String} {y : MethodName} {bytes : ByteArray} {ret : Option FieldType} {rm : Room} {Qc : Array Value → State → Outcome → State → Prop} {Ex Ex1 : String → Prop}
theorem v_throw (C : Cx p s m args c cc nL RX6 L) (hl : l.stackTraces = false) (hlk : meth.locks = false) (htab : ∀ x ∈ c.exceptionTable.toList, False) {cls text : String} {ik is ic : Nat} (hq : TW cls ik ic) (hs : (is, text) ∈ strs) (hE : Ex cls)
    (hR : 5 < R.frames ∧ (st.map fun v => v.category).sum + 82 ≤ R.locals ∧ cells + 1 ≤ R.cells ∧ slots + 6 ≤ R.slots) (hcs : cells + 1 ≤ mc ∧ slots + 6 ≤ ms)
    (d0 : decode cc pc = .ok (.new ik, 3)) (d3 : decode cc (pc + 3) = .ok (.dup, 1)) (d4 : decode cc (pc + 4) = .ok (.ldc is, 2)) (d6 : decode cc (pc + 6) = .ok (.invokespecial ic, 3)) (d9 : decode cc (pc + 9) = .ok (.athrow, 1)) :
    V p l e R s m args below meth c nL L (HH L g) cells slots (vx_MQ below Qc (XX L g Ex) args s mc ms (Af L)) pc lv st := by
  intro H locs ls hI hS hlv
  obtain ⟨q1, q2, q3, q4, q5, q6, q7⟩ := hq
  obtain ⟨hx, hb, hml, hown, hts, hK, ⟨⟨z1, z2⟩, -, hstr, hca, -, hdc⟩, hz⟩ := C
  obtain ⟨sa, hsa⟩ := hstr _ hs
  refine vx_throwS (A := Af L) hx hb hl hown q1 (by decide +kernel) (hts _ q2) (hts _ q3) hsa (vx_hat (fun w hw => hts w (q5 w hw)) q6 (vx_c (va_Nw.use rfl (hca _ q4)) (vx_c (va_Nw.use rfl (hdc _ (by decide))) (vx_c (va_Nw.use rfl (hdc _ (by decide))) (vx_c (va_Nw.use rfl (hdc _ (by decide))) vx_n))))) q7 z1 z2 hS (hlv.1.trans hml.symm) d0 d3 d4 d6 d9 (fun x hx => (htab x hx).elim) hR.1 hR.2.1 hR.2.2.1 hR.2.2.2 hlk (fun t hal hsz hkp => ?_) hS.2.2 hcs.1 hcs.2
  refine ⟨(), trivial, ⟨hE, ?_⟩, Nat.le_trans hS.1 hsz, fun q h1 h2 => ?_⟩
  · exact hI.kept (fun k q hk => hkp q.1 (hI k q hk).lt)
  · rw [hkp q (Nat.lt_of_lt_of_le h1 hS.1)]; exact hS.2.1 q h1 h2
theorem xx_out (C : Cx p s m args c cc nL own L) (hlk : meth.locks = false) (htab : ∀ x ∈ c.exceptionTable.toList, False) {E : String} {ce : Cell} {q9 : Addr} {H1 : Heap} {locs1 : List Loc} {ls : Array Slot} (hE : Ex E) (hH : HH L g H1) (hS : va_S (Af L) s.heap H1 locs1) (hce : H1[q9]? = some ce) (hcv : ce.vm = .none) (hcl : s.vm.findClass E = some ce.cls) (hcs : cells ≤ mc ∧ slots ≤ ms) : vx_W p l e R s m args below meth c H1 locs1 cells slots (vx_MQ below Qc (XX L g Ex) args s mc ms (Af L)) (F0 m pc ls st) q9 :=
  vx_out (fun x hx => (htab x hx).elim) hlk hce hcv hcl (fun t ht hal => ⟨(), trivial, ⟨hE, by rw [ht]; exact hH⟩, by rw [ht]; exact hS.1, fun q h1 h2 => by rw [ht]; exact hS.2.1 q h1 h2⟩) hS.2.2 hcs.1 hcs.2
/-- a check, that may throw -/
theorem v_chk (C : Cx p s m args c cc nL own L) (hlk : meth.locks = false) (htab : ∀ x ∈ c.exceptionTable.toList, False) {P : St → Prop} {As st0 : List Value} (w : CWs own ix y bytes maxL ret n) (hM : vx_Met l y (.code y bytes maxL ret :: wsL_law) { frames := fr, cells := mc1, slots := ms1, locals := lo } (va_Pc As (HS L g)) (va_Qv P (fun u t => HS L u t) (Af L)) (XX L g Ex1) mc1 ms1 (Af L)) (hEx : ∀ E, Ex1 E → Ex E) (hR : fr + 1 ≤ R.frames ∧ 8 + (maxL + 11) + lo ≤ R.locals) (hn : As.length = n) (hst : (st.map fun v => v.category).sum ≤ 8) (hcs : (cells + mc1 ≤ R.cells ∧ slots + ms1 ≤ R.slots) ∧ cells + mc1 ≤ mc ∧ slots + ms1 ≤ ms) (h0 : st0 = As.reverse ++ st) (hdg : decode cc pc = .ok (.invokestatic ix, 3)) (kk : ∀ (u : St), P u → V p l e R s m args below meth c nL L (HH L u) (cells + mc1) (slots + ms1) (vx_MQ below Qc (XX L g Ex) args s mc ms (Af L)) (pc + 3) lv st) : V p l e R s m args below meth c nL L (HH L g) cells slots (vx_MQ below Qc (XX L g Ex) args s mc ms (Af L)) pc lv st0 := by
  subst h0
  intro H locs ls hI hS hl
  exact vx_callv (vx_runS (As := As) (rest := st) (Ts := wsL_law) ⟨C.1, C.2.1, C.2.2.1, C.2.2.2.1, C.2.2.2.2.1⟩ hM (w.W C rfl rfl hR) ⟨HS.blind, pre_of C hI hS⟩ rfl hn hl.1 rfl (lv_room hst) hdg hcs.1) hS (fun _ _ h => h) (fun _ h => h) (fun _ _ h => h)
    (fun E ce q9 u t H1 locs1 ht hA hp hB _ _ hS1 hce hcv hcl => xx_out C hlk htab (hEx E hB.1) (by rw [← ht]; exact hB.2) hS1 hce hcv hcl hcs.2)
    (fun u t H1 locs1 ht hA hp hB _ _ hS1 => kk u hp H1 locs1 ls (by rw [← ht]; exact hB.1) hS1 hl)
theorem v_iretX (C : Cx p s m args c cc nL own L) (hr : meth.sig.returnType = some .int) (hlocks : meth.locks = false) {XC : String → State → State → Prop} {P : Int32 → St → Prop} {r : Int32} (hcs : cells ≤ mc ∧ slots ≤ ms) (hP : P r g) (hdg : decode cc pc = .ok (.ireturn, 1)) : V p l e R s m args below meth c nL L (HH L g) cells slots (vx_MQ below (va_Qi P (fun u t => HS L u t) (Af L)) XC args s mc ms (Af L)) pc lv [.int r] := fun H locs ls hI hS hl => W.widen hcs.1 hcs.2 (vx_ret (W.iret C.1 C.2.1 hr (fun t ht hW => ⟨⟨r, g, rfl, hP, by show HH L g t.heap; rw [ht]; exact hI, C.2.2.2.2.2.go hW ht hS⟩, hS.F ht⟩) hS.2.2 hdg hlocks))
theorem v_vretX (C : Cx p s m args c cc nL own L) (hr : meth.sig.returnType = none) (hlocks : meth.locks = false) {XC : String → State → State → Prop} {P : St → Prop} (hcs : cells ≤ mc ∧ slots ≤ ms) (hP : P g) (hdg : decode cc pc = .ok (.return_, 1)) : V p l e R s m args below meth c nL L (HH L g) cells slots (vx_MQ below (va_Qv P (fun u t => HS L u t) (Af L)) XC args s mc ms (Af L)) pc lv [] := fun H locs ls hI hS hl => W.widen hcs.1 hcs.2 (vx_ret (W.vret C.1 C.2.1 hr (fun t ht hW => ⟨⟨g, rfl, hP, by show HH L g t.heap; rw [ht]; exact hI, C.2.2.2.2.2.go hW ht hS⟩, hS.F ht⟩) hS.2.2 hdg hlocks))
end VX
theorem tw_ix : TW "java/lang/IndexOutOfBoundsException" 224 228 := ⟨by decide +kernel, u_4_17, u_4_18, by decide, fun w h => by unfold wsL_law; exact List.mem_append_left _ (List.mem_append_left _ (List.mem_append_right _ h)), by decide +kernel, by decide +kernel⟩
theorem tw_ia : TW "java/lang/IllegalArgumentException" 133 137 := ⟨by decide +kernel, u_7_2, u_7_3, by decide, fun w h => by unfold wsL_law; exact List.mem_append_left _ (List.mem_append_right _ h), by decide +kernel, by decide +kernel⟩
theorem tw_is : TW "java/lang/IllegalStateException" 95 99 := ⟨by decide +kernel, u_13_16, u_13_17, by decide, fun w h => by unfold wsL_law; exact List.mem_append_right _ h, by decide +kernel, by decide +kernel⟩
section VY
variable {p : Program} {l : Launch} {e : Env} {R : Room} {s : State} {m : MethodId} {args : Array Value} {below : List Frame} {meth : Method} {c : Code} {cells slots : Nat} {Q : State → Prop} {cc : ByteArray} {nL : Nat} {own : String} {L : Lay} {g : St} {pc : Nat} {lv : List (Nat × Value)} {st : List Value} {ix : Nat}
theorem v_gets (C : Cx p s m args c cc nL own L) {n ref : String} {t : Nat} (hZ : va_Z "CanyonBall" n "[I" (.ref t) (Af L) s s.heap) (hs : "CanyonBall" = ref) (hw : Cond.fieldLink own ix ref n "[I" ∈ wsL_law) (hdg : decode cc pc = .ok (.getstatic ix, 3)) (kk : V p l e R s m args below meth c nL L (HH L g) cells slots Q (pc + 3) lv (.ref t :: st)) : V p l e R s m args below meth c nL L (HH L g) cells slots Q pc lv st := fun H locs ls hI hS hl => va_gets C.1 C.2.1 hZ hS C.2.2.2.1 (C.2.2.2.2.1 _ hw) (fun x hx => by rw [← hs]; exact hx) hdg (kk H locs ls hI hS hl)
theorem v_ti (C : Cx p s m args c cc nL own L) {t : Nat} {f : Nat → Value} {a : Int} (hT : va_T .int t 3 f (Af L) s s.heap) (h : 0 ≤ a ∧ a < 3) (z : Int) (hv : f a.toNat = .int (iI z)) (hdg : decode cc pc = .ok (.iaload, 1)) (kk : V p l e R s m args below meth c nL L (HH L g) cells slots Q (pc + 1) lv (.int (iI z) :: st)) : V p l e R s m args below meth c nL L (HH L g) cells slots Q pc lv (.int (iI a) :: .ref t :: st) := fun H locs ls hI hS hl => va_ti C.1 C.2.1 hT hS (iI_ix h.1 h.2 (by decide)) (by rw [iI_nat ⟨by omega, by omega⟩]; exact hv) hdg (kk H locs ls hI hS hl)
end VY
def lsV (a : Int) : Int := if a = 0 then 8 else if a = 1 then 1 else 0
def msV (a : Int) : Int := if a = 0 then 40 else if a = 1 then 9 else 5
def fsV (a : Int) : Int := if a = 0 then 12 else if a = 1 then 3 else 2
theorem lsV_at {a : Int} (h : 0 ≤ a ∧ a < 3) : (fun j : Nat => Value.int (([8, 1, 0] : List Int32).getD j 0)) a.toNat = .int (iI (lsV a)) := by
  rcases (show a = 0 ∨ a = 1 ∨ a = 2 by omega) with rfl | rfl | rfl <;> rfl
theorem msV_at {a : Int} (h : 0 ≤ a ∧ a < 3) : (fun j : Nat => Value.int (([40, 9, 5] : List Int32).getD j 0)) a.toNat = .int (iI (msV a)) := by
  rcases (show a = 0 ∨ a = 1 ∨ a = 2 by omega) with rfl | rfl | rfl <;> rfl
theorem fsV_at {a : Int} (h : 0 ≤ a ∧ a < 3) : (fun j : Nat => Value.int (([12, 3, 2] : List Int32).getD j 0)) a.toNat = .int (iI (fsV a)) := by
  rcases (show a = 0 ∨ a = 1 ∨ a = 2 by omega) with rfl | rfl | rfl <;> rfl
