/-! contracts over the world by keys: a method begun, ended, called -/
theorem Sm.go {L : Lay} {s t : State} {H : Heap} {locs : List Loc} (h : Sm L s) (hW : s.WarmedH t.vm) (ht : t.heap = H) (hS : va_S (Af L) s.heap H locs) : Sm L t := by
  obtain ⟨hK, ⟨⟨z1, z2⟩, ⟨t1, t2, t3, ⟨a1, b1⟩, ⟨a2, b2⟩, ⟨a3, b3⟩⟩, hstr, hcs, hnc, hdc⟩, hz⟩ := h
  have hk := hS.2.1
  rw [← ht] at hk
  refine ⟨va_K.moved hW.alike hK, ⟨⟨vx_Zq.moved hW.alike (z1.kept hk), vx_Zq.moved hW.alike (z2.kept hk)⟩, ⟨t1, t2, t3, ⟨va_Z.moved hW.alike (a1.kept hk), va_T.moved hW.alike (b1.kept hk)⟩, ⟨va_Z.moved hW.alike (a2.kept hk), va_T.moved hW.alike (b2.kept hk)⟩, ⟨va_Z.moved hW.alike (a3.kept hk), va_T.moved hW.alike (b3.kept hk)⟩⟩, fun q hq => ?_, fun X hX => va_Nw.warmC hW (hcs X hX), fun X hX Y hY hn => (hnc X hX Y hY hn).moved hW.alike, fun Y hY => va_Nw.warmD hW (hdc Y hY)⟩, ?_⟩
  · obtain ⟨sa, hsa⟩ := hstr q hq
    exact ⟨sa, vk_R.warm hW hsa⟩
  · rw [ht]; exact Nat.le_trans hz hS.1
theorem Sm.calling {L : Lay} {U : State} (h : Sm L U) (g : JFrame) (mk : MethodId) (a : Array Value) : Sm L (U.calling g mk a) := by
  obtain ⟨hK, ⟨⟨z1, z2⟩, ⟨t1, t2, t3, ⟨a1, b1⟩, ⟨a2, b2⟩, ⟨a3, b3⟩⟩, hstr, hcs, hnc, hdc⟩, hz⟩ := h
  have al := Vm.Alike.refl U.vm
  refine ⟨va_K.moved (u := U) (U := U.calling g mk a) al hK, ⟨⟨vx_Zq.moved (u := U) (U := U.calling g mk a) al z1, vx_Zq.moved (u := U) (U := U.calling g mk a) al z2⟩, ⟨t1, t2, t3, ⟨va_Z.moved (u := U) (U := U.calling g mk a) al a1, va_T.moved (u := U) (U := U.calling g mk a) al b1⟩, ⟨va_Z.moved (u := U) (U := U.calling g mk a) al a2, va_T.moved (u := U) (U := U.calling g mk a) al b2⟩, ⟨va_Z.moved (u := U) (U := U.calling g mk a) al a3, va_T.moved (u := U) (U := U.calling g mk a) al b3⟩⟩, fun q hq => ?_, fun X hX => va_Nw.same rfl (u := U) (U := U.calling g mk a) rfl (hcs X hX), fun X hX Y hY hn => va_Nc.moved (u := U) (U := U.calling g mk a) al (hnc X hX Y hY hn), fun Y hY => va_Nw.same rfl (u := U) (U := U.calling g mk a) rfl (hdc Y hY)⟩, hz⟩
  obtain ⟨sa, hsa⟩ := hstr q hq
  exact ⟨sa, vk_R.same (u := U) (U := U.calling g mk a) rfl hsa⟩
theorem HS.blind {L : Lay} {g : St} {As : List Value} : FrameBlind (va_Pc As (HS L g)) := fun a U g' mk q => ⟨q.1, q.2.1, q.2.2.calling g' mk a⟩
theorem ct_mk {l : Launch} {y : MethodName} {cc : ByteArray} {maxL : Nat} {ret : Option FieldType} {rm : Room} {As : List Value} {L : Lay} {g : St} {Qc : Array Value → State → Outcome → State → Prop} {mc ms : Nat} (hy : plainName y.cls = true) (hlen : (lg_sl As).length ≤ maxL)
    (body : ∀ (p : Program) (e : Env) (s : State) (m : MethodId) (below : List Frame) (meth : Method) (c : Code), Cx p s m As.toArray c cc maxL y.cls L → meth.sig.returnType = ret → meth.locks = false → V p l e rm s m As.toArray below meth c maxL L (HH L g) 0 0 (MQ below Qc As.toArray s mc ms (Af L)) 0 (lv_args 0 As) []) :
    Met l y (.code y cc maxL ret :: wsL_law) rm (va_Pc As (HS L g)) Qc mc ms (Af L) := by
  refine Met.ofW (cc := cc) (maxL := maxL) (ret := ret) hy rfl ?_
  intro p e s m args below meth c s₁ B hml hv
  obtain ⟨rfl, hH, hSm⟩ := hv
  have hts := atoms_spec (ws := .code y cc maxL ret :: wsL_law) B.pre
  have hown : s.vm.findClass y.cls = some m.cls := findClass_of_methodNamed B.named
  have hl := lv_entry As (n := maxL) hlen
  rw [lg_entry_eq]
  exact body p e s m below meth c ⟨B.exec, B.bytes, hml, hown, fun w h => hts w (List.mem_cons_of_mem _ h), hSm⟩ B.returns B.notSynchronized s.heap [] _ hH va_S.rf hl
/-- how a method of another class, or of this one, is linked -/
def CW (own : String) (ix : Nat) (Cn : String) (y : MethodName) (bytes : ByteArray) (maxL : Nat) (ret : Option FieldType) (n : Nat) : Prop :=
  Cond.methodLink own ix y ∈ wsL_law ∧ Cond.instanceMethod y ∈ wsL_law ∧ Cond.selects Cn y y ∈ wsL_law ∧ Cond.initialized Cn ∈ wsL_law ∧ Cond.code y bytes maxL ret ∈ wsL_law ∧ (y.cls = Cn ∧ y.cls ≠ "java/lang/invoke/MethodHandle" ∧ y.cls ≠ "java/lang/invoke/VarHandle" ∧ (parseMethodDescriptor y.desc).map (fun d => d.parameters.length) = some n)
def CWs (own : String) (ix : Nat) (y : MethodName) (bytes : ByteArray) (maxL : Nat) (ret : Option FieldType) (n : Nat) : Prop :=
  Cond.methodLink own ix y ∈ wsL_law ∧ Cond.static y ∈ wsL_law ∧ Cond.initialized y.cls ∈ wsL_law ∧ Cond.code y bytes maxL ret ∈ wsL_law ∧ (y.cls ≠ "java/lang/invoke/MethodHandle" ∧ y.cls ≠ "java/lang/invoke/VarHandle" ∧ (parseMethodDescriptor y.desc).map (fun d => d.parameters.length) = some n)
section VC
variable {p : Program} {l : Launch} {e : Env} {R : Room} {s : State} {m : MethodId} {args : Array Value} {below : List Frame} {meth : Method} {c : Code} {cells slots : Nat} {Q : State → Prop} {cc : ByteArray} {nL : Nat} {own : String} {L : Lay} {g : St} {pc : Nat} {lv : List (Nat × Value)} {st : List Value}
variable {ix n maxL fr lo mc ms : Nat} {Cn : String} {y : MethodName} {bytes : ByteArray} {ret : Option FieldType} {rm : Room}
theorem CW.W (C : Cx p s m args c cc nL own L) (w : CW own ix Cn y bytes maxL ret n) (hrc : rm.cells = mc) (hrs : rm.slots = ms) (hR : rm.frames + 1 ≤ R.frames ∧ 8 + (maxL + 11) + rm.locals ≤ R.locals) : CallW R s args own Cn ix y bytes maxL ret (.code y bytes maxL ret :: wsL_law) rm mc ms n := by
  obtain ⟨w1, w2, w3, w4, w5, w6⟩ := w
  refine cwV n C.2.2.2.2.1 (fun w h => ?_) rfl hrc hrs w6 hR
  have hm : w ∈ wsL_law := by
    simp only [wsV, List.cons_append, List.nil_append, List.mem_cons] at h
    rcases h with rfl | rfl | rfl | rfl | rfl | h
    · exact w1
    · exact w2
    · exact w3
    · exact w4
    · exact w5
    · exact h
  exact ⟨hm, gU w hm⟩
theorem CWs.W (C : Cx p s m args c cc nL own L) (w : CWs own ix y bytes maxL ret n) (hrc : rm.cells = mc) (hrs : rm.slots = ms) (hR : rm.frames + 1 ≤ R.frames ∧ 8 + (maxL + 11) + rm.locals ≤ R.locals) : CallB R s args own ix y bytes maxL ret (.code y bytes maxL ret :: wsL_law) rm mc ms n ∧ (Cond.static y).before args s = true := by
  obtain ⟨w1, w2, w3, w4, w5⟩ := w
  refine va_cwS n C.2.2.2.2.1 (fun w h => ?_) rfl hrc hrs w5 hR
  have hm : w ∈ wsL_law := by
    simp only [va_wsS, List.cons_append, List.nil_append, List.mem_cons] at h
    rcases h with rfl | rfl | rfl | rfl | h
    · exact w1
    · exact w2
    · exact w3
    · exact w4
    · exact h
  exact ⟨hm, gU w hm⟩
/-- the receiver: an object of the world -/
def Rcv (L : Lay) (g : St) (f : Nat) (k j : Int) (Cn : String) : Prop := (f, k, j) ∈ kl L ∧ ∃ (ci : Nat) (fs : List Value) (T : u_T) (N : Nat), cellT L f k j (g f k j) = .inr (ci, fs) ∧ vwCl[ci]? = some (Cn, T, N)
theorem Rcv.at {f : Nat} {k j : Int} {H : Heap} (hr : Rcv L g f k j Cn) (C : Cx p s m args c cc nL own L) (hI : HH L g H) : ∃ cellB : Cell, H[adr L f k j]? = some cellB ∧ cellB.vm.isStatics = false ∧ s.vm.findClass Cn = some cellB.cls := by
  obtain ⟨hok, ci, fs, T, N, he, hc⟩ := hr
  obtain ⟨q, -, hn⟩ := wl_at L g hok
  rw [he] at hn
  exact va_recv (q := (Cn, T, N)) C.2.2.2.2.2.1 hI hc hn
theorem pre_of {As : List Value} (C : Cx p s m args c cc nL own L) {H : Heap} {locs : List Loc} (hI : HH L g H) (hS : va_S (Af L) s.heap H locs) : ∀ U : State, U.heap = H → s.WarmedH U.vm → va_Pc As (HS L g) As.toArray U := fun U hU hW => ⟨rfl, by show HH L g U.heap; rw [hU]; exact hI, C.2.2.2.2.2.go hW hU hS⟩
end VC
section VD
variable {p : Program} {l : Launch} {e : Env} {R : Room} {s : State} {m : MethodId} {args : Array Value} {below : List Frame} {meth : Method} {c : Code} {cells slots : Nat} {Q : State → Prop} {cc : ByteArray} {nL : Nat} {own : String} {L : Lay} {g : St} {pc : Nat} {lv : List (Nat × Value)} {st : List Value}
variable {ix n maxL fr lo mc ms : Nat} {Cn : String} {y : MethodName} {bytes : ByteArray} {ret : Option FieldType} {rm : Room}
theorem v_calliV (C : Cx p s m args c cc nL own L) {P : Int32 → St → Prop} {As st0 : List Value} (w : CW own ix Cn y bytes maxL ret n) {f : Nat} {k j : Int} (hr : Rcv L g f k j Cn) (hM : Met l y (.code y bytes maxL ret :: wsL_law) { frames := fr, cells := mc, slots := ms, locals := lo } (va_Pc (.ref (adr L f k j) :: As) (HS L g)) (va_Qi P (fun u t => HS L u t) (Af L)) mc ms (Af L)) (hR : fr + 1 ≤ R.frames ∧ 8 + (maxL + 11) + lo ≤ R.locals) (hn : As.length = n) (hst : (st.map fun v => v.category).sum ≤ 8) (hcs : cells + mc ≤ R.cells ∧ slots + ms ≤ R.slots) (h0 : st0 = As.reverse ++ .ref (adr L f k j) :: st) (hdg : decode cc pc = .ok (.invokevirtual ix, 3)) (kk : ∀ (r : Int32) (u : St), P r u → V p l e R s m args below meth c nL L (HH L u) (cells + mc) (slots + ms) Q (pc + 3) lv (.int r :: st)) : V p l e R s m args below meth c nL L (HH L g) cells slots Q pc lv st0 := by
  subst h0
  intro H locs ls hI hS hl
  exact va_calli (va_runV (As := As) (rest := st) (Ts := wsL_law) ⟨C.1, C.2.1, C.2.2.1, C.2.2.2.1, C.2.2.2.2.1⟩ hM (w.W C rfl rfl hR) ⟨HS.blind, hr.at C hI, pre_of C hI hS⟩ rfl hn hl.1 rfl (lv_room hst) hdg hcs) hS (fun _ _ h => h) (fun _ h => h) (fun r u t H1 locs1 ht hA hp hB _ _ hS1 => kk r u hp H1 locs1 ls (by rw [← ht]; exact hB.1) hS1 hl)
theorem v_calliS (C : Cx p s m args c cc nL own L) {P : Int32 → St → Prop} {As st0 : List Value} (w : CWs own ix y bytes maxL ret n) (hM : Met l y (.code y bytes maxL ret :: wsL_law) { frames := fr, cells := mc, slots := ms, locals := lo } (va_Pc As (HS L g)) (va_Qi P (fun u t => HS L u t) (Af L)) mc ms (Af L)) (hR : fr + 1 ≤ R.frames ∧ 8 + (maxL + 11) + lo ≤ R.locals) (hn : As.length = n) (hst : (st.map fun v => v.category).sum ≤ 8) (hcs : cells + mc ≤ R.cells ∧ slots + ms ≤ R.slots) (h0 : st0 = As.reverse ++ st) (hdg : decode cc pc = .ok (.invokestatic ix, 3)) (kk : ∀ (r : Int32) (u : St), P r u → V p l e R s m args below meth c nL L (HH L u) (cells + mc) (slots + ms) Q (pc + 3) lv (.int r :: st)) : V p l e R s m args below meth c nL L (HH L g) cells slots Q pc lv st0 := by
  subst h0
  intro H locs ls hI hS hl
  exact va_calli (va_runS (As := As) (rest := st) (Ts := wsL_law) ⟨C.1, C.2.1, C.2.2.1, C.2.2.2.1, C.2.2.2.2.1⟩ hM (w.W C rfl rfl hR) ⟨HS.blind, pre_of C hI hS⟩ rfl hn hl.1 rfl (lv_room hst) hdg hcs) hS (fun _ _ h => h) (fun _ h => h) (fun r u t H1 locs1 ht hA hp hB _ _ hS1 => kk r u hp H1 locs1 ls (by rw [← ht]; exact hB.1) hS1 hl)
theorem v_calllV (C : Cx p s m args c cc nL own L) {P : Int64 → St → Prop} {As st0 : List Value} (w : CW own ix Cn y bytes maxL ret n) {f : Nat} {k j : Int} (hr : Rcv L g f k j Cn) (hM : Met l y (.code y bytes maxL ret :: wsL_law) { frames := fr, cells := mc, slots := ms, locals := lo } (va_Pc (.ref (adr L f k j) :: As) (HS L g)) (va_Ql P (fun u t => HS L u t) (Af L)) mc ms (Af L)) (hR : fr + 1 ≤ R.frames ∧ 8 + (maxL + 11) + lo ≤ R.locals) (hn : As.length = n) (hst : (st.map fun v => v.category).sum ≤ 8) (hcs : cells + mc ≤ R.cells ∧ slots + ms ≤ R.slots) (h0 : st0 = As.reverse ++ .ref (adr L f k j) :: st) (hdg : decode cc pc = .ok (.invokevirtual ix, 3)) (kk : ∀ (r : Int64) (u : St), P r u → V p l e R s m args below meth c nL L (HH L u) (cells + mc) (slots + ms) Q (pc + 3) lv (.long r :: st)) : V p l e R s m args below meth c nL L (HH L g) cells slots Q pc lv st0 := by
  subst h0
  intro H locs ls hI hS hl
  exact va_calll (va_runV (As := As) (rest := st) (Ts := wsL_law) ⟨C.1, C.2.1, C.2.2.1, C.2.2.2.1, C.2.2.2.2.1⟩ hM (w.W C rfl rfl hR) ⟨HS.blind, hr.at C hI, pre_of C hI hS⟩ rfl hn hl.1 rfl (lv_room hst) hdg hcs) hS (fun _ _ h => h) (fun _ h => h) (fun r u t H1 locs1 ht hA hp hB _ _ hS1 => kk r u hp H1 locs1 ls (by rw [← ht]; exact hB.1) hS1 hl)
theorem v_calllS (C : Cx p s m args c cc nL own L) {P : Int64 → St → Prop} {As st0 : List Value} (w : CWs own ix y bytes maxL ret n) (hM : Met l y (.code y bytes maxL ret :: wsL_law) { frames := fr, cells := mc, slots := ms, locals := lo } (va_Pc As (HS L g)) (va_Ql P (fun u t => HS L u t) (Af L)) mc ms (Af L)) (hR : fr + 1 ≤ R.frames ∧ 8 + (maxL + 11) + lo ≤ R.locals) (hn : As.length = n) (hst : (st.map fun v => v.category).sum ≤ 8) (hcs : cells + mc ≤ R.cells ∧ slots + ms ≤ R.slots) (h0 : st0 = As.reverse ++ st) (hdg : decode cc pc = .ok (.invokestatic ix, 3)) (kk : ∀ (r : Int64) (u : St), P r u → V p l e R s m args below meth c nL L (HH L u) (cells + mc) (slots + ms) Q (pc + 3) lv (.long r :: st)) : V p l e R s m args below meth c nL L (HH L g) cells slots Q pc lv st0 := by
  subst h0
  intro H locs ls hI hS hl
  exact va_calll (va_runS (As := As) (rest := st) (Ts := wsL_law) ⟨C.1, C.2.1, C.2.2.1, C.2.2.2.1, C.2.2.2.2.1⟩ hM (w.W C rfl rfl hR) ⟨HS.blind, pre_of C hI hS⟩ rfl hn hl.1 rfl (lv_room hst) hdg hcs) hS (fun _ _ h => h) (fun _ h => h) (fun r u t H1 locs1 ht hA hp hB _ _ hS1 => kk r u hp H1 locs1 ls (by rw [← ht]; exact hB.1) hS1 hl)
theorem v_calldV (C : Cx p s m args c cc nL own L) {P : UInt64 → St → Prop} {As st0 : List Value} (w : CW own ix Cn y bytes maxL ret n) {f : Nat} {k j : Int} (hr : Rcv L g f k j Cn) (hM : Met l y (.code y bytes maxL ret :: wsL_law) { frames := fr, cells := mc, slots := ms, locals := lo } (va_Pc (.ref (adr L f k j) :: As) (HS L g)) (va_Qd P (fun u t => HS L u t) (Af L)) mc ms (Af L)) (hR : fr + 1 ≤ R.frames ∧ 8 + (maxL + 11) + lo ≤ R.locals) (hn : As.length = n) (hst : (st.map fun v => v.category).sum ≤ 8) (hcs : cells + mc ≤ R.cells ∧ slots + ms ≤ R.slots) (h0 : st0 = As.reverse ++ .ref (adr L f k j) :: st) (hdg : decode cc pc = .ok (.invokevirtual ix, 3)) (kk : ∀ (r : UInt64) (u : St), P r u → V p l e R s m args below meth c nL L (HH L u) (cells + mc) (slots + ms) Q (pc + 3) lv (.double r :: st)) : V p l e R s m args below meth c nL L (HH L g) cells slots Q pc lv st0 := by
  subst h0
  intro H locs ls hI hS hl
  exact va_calld (va_runV (As := As) (rest := st) (Ts := wsL_law) ⟨C.1, C.2.1, C.2.2.1, C.2.2.2.1, C.2.2.2.2.1⟩ hM (w.W C rfl rfl hR) ⟨HS.blind, hr.at C hI, pre_of C hI hS⟩ rfl hn hl.1 rfl (lv_room hst) hdg hcs) hS (fun _ _ h => h) (fun _ h => h) (fun r u t H1 locs1 ht hA hp hB _ _ hS1 => kk r u hp H1 locs1 ls (by rw [← ht]; exact hB.1) hS1 hl)
theorem v_calldS (C : Cx p s m args c cc nL own L) {P : UInt64 → St → Prop} {As st0 : List Value} (w : CWs own ix y bytes maxL ret n) (hM : Met l y (.code y bytes maxL ret :: wsL_law) { frames := fr, cells := mc, slots := ms, locals := lo } (va_Pc As (HS L g)) (va_Qd P (fun u t => HS L u t) (Af L)) mc ms (Af L)) (hR : fr + 1 ≤ R.frames ∧ 8 + (maxL + 11) + lo ≤ R.locals) (hn : As.length = n) (hst : (st.map fun v => v.category).sum ≤ 8) (hcs : cells + mc ≤ R.cells ∧ slots + ms ≤ R.slots) (h0 : st0 = As.reverse ++ st) (hdg : decode cc pc = .ok (.invokestatic ix, 3)) (kk : ∀ (r : UInt64) (u : St), P r u → V p l e R s m args below meth c nL L (HH L u) (cells + mc) (slots + ms) Q (pc + 3) lv (.double r :: st)) : V p l e R s m args below meth c nL L (HH L g) cells slots Q pc lv st0 := by
  subst h0
  intro H locs ls hI hS hl
  exact va_calld (va_runS (As := As) (rest := st) (Ts := wsL_law) ⟨C.1, C.2.1, C.2.2.1, C.2.2.2.1, C.2.2.2.2.1⟩ hM (w.W C rfl rfl hR) ⟨HS.blind, pre_of C hI hS⟩ rfl hn hl.1 rfl (lv_room hst) hdg hcs) hS (fun _ _ h => h) (fun _ h => h) (fun r u t H1 locs1 ht hA hp hB _ _ hS1 => kk r u hp H1 locs1 ls (by rw [← ht]; exact hB.1) hS1 hl)
theorem v_callvV (C : Cx p s m args c cc nL own L) {P : St → Prop} {As st0 : List Value} (w : CW own ix Cn y bytes maxL ret n) {f : Nat} {k j : Int} (hr : Rcv L g f k j Cn) (hM : Met l y (.code y bytes maxL ret :: wsL_law) { frames := fr, cells := mc, slots := ms, locals := lo } (va_Pc (.ref (adr L f k j) :: As) (HS L g)) (va_Qv P (fun u t => HS L u t) (Af L)) mc ms (Af L)) (hR : fr + 1 ≤ R.frames ∧ 8 + (maxL + 11) + lo ≤ R.locals) (hn : As.length = n) (hst : (st.map fun v => v.category).sum ≤ 8) (hcs : cells + mc ≤ R.cells ∧ slots + ms ≤ R.slots) (h0 : st0 = As.reverse ++ .ref (adr L f k j) :: st) (hdg : decode cc pc = .ok (.invokevirtual ix, 3)) (kk : ∀ (u : St), P u → V p l e R s m args below meth c nL L (HH L u) (cells + mc) (slots + ms) Q (pc + 3) lv (st)) : V p l e R s m args below meth c nL L (HH L g) cells slots Q pc lv st0 := by
  subst h0
  intro H locs ls hI hS hl
  exact va_callv (va_runV (As := As) (rest := st) (Ts := wsL_law) ⟨C.1, C.2.1, C.2.2.1, C.2.2.2.1, C.2.2.2.2.1⟩ hM (w.W C rfl rfl hR) ⟨HS.blind, hr.at C hI, pre_of C hI hS⟩ rfl hn hl.1 rfl (lv_room hst) hdg hcs) hS (fun _ _ h => h) (fun _ h => h) (fun u t H1 locs1 ht hA hp hB _ _ hS1 => kk u hp H1 locs1 ls (by rw [← ht]; exact hB.1) hS1 hl)
theorem v_callvS (C : Cx p s m args c cc nL own L) {P : St → Prop} {As st0 : List Value} (w : CWs own ix y bytes maxL ret n) (hM : Met l y (.code y bytes maxL ret :: wsL_law) { frames := fr, cells := mc, slots := ms, locals := lo } (va_Pc As (HS L g)) (va_Qv P (fun u t => HS L u t) (Af L)) mc ms (Af L)) (hR : fr + 1 ≤ R.frames ∧ 8 + (maxL + 11) + lo ≤ R.locals) (hn : As.length = n) (hst : (st.map fun v => v.category).sum ≤ 8) (hcs : cells + mc ≤ R.cells ∧ slots + ms ≤ R.slots) (h0 : st0 = As.reverse ++ st) (hdg : decode cc pc = .ok (.invokestatic ix, 3)) (kk : ∀ (u : St), P u → V p l e R s m args below meth c nL L (HH L u) (cells + mc) (slots + ms) Q (pc + 3) lv (st)) : V p l e R s m args below meth c nL L (HH L g) cells slots Q pc lv st0 := by
  subst h0
  intro H locs ls hI hS hl
  exact va_callv (va_runS (As := As) (rest := st) (Ts := wsL_law) ⟨C.1, C.2.1, C.2.2.1, C.2.2.2.1, C.2.2.2.2.1⟩ hM (w.W C rfl rfl hR) ⟨HS.blind, pre_of C hI hS⟩ rfl hn hl.1 rfl (lv_room hst) hdg hcs) hS (fun _ _ h => h) (fun _ h => h) (fun u t H1 locs1 ht hA hp hB _ _ hS1 => kk u hp H1 locs1 ls (by rw [← ht]; exact hB.1) hS1 hl)
theorem v_iret (C : Cx p s m args c cc nL own L) (hr : meth.sig.returnType = some .int) (hlocks : meth.locks = false) {P : Int32 → St → Prop} {r : Int32} (hP : P r g) (hdg : decode cc pc = .ok (.ireturn, 1)) : V p l e R s m args below meth c nL L (HH L g) cells slots (MQ below (va_Qi P (fun u t => HS L u t) (Af L)) args s cells slots (Af L)) pc lv [.int r] := fun H locs ls hI hS hl => W.iret C.1 C.2.1 hr (fun t ht hW => ⟨⟨r, g, rfl, hP, by show HH L g t.heap; rw [ht]; exact hI, C.2.2.2.2.2.go hW ht hS⟩, hS.F ht⟩) hS.2.2 hdg hlocks
theorem v_lret (C : Cx p s m args c cc nL own L) (hr : meth.sig.returnType = some .long) (hlocks : meth.locks = false) {P : Int64 → St → Prop} {r : Int64} (hP : P r g) (hdg : decode cc pc = .ok (.lreturn, 1)) : V p l e R s m args below meth c nL L (HH L g) cells slots (MQ below (va_Ql P (fun u t => HS L u t) (Af L)) args s cells slots (Af L)) pc lv [.long r] := fun H locs ls hI hS hl => W.lret C.1 C.2.1 hr (fun t ht hW => ⟨⟨r, g, rfl, hP, by show HH L g t.heap; rw [ht]; exact hI, C.2.2.2.2.2.go hW ht hS⟩, hS.F ht⟩) hS.2.2 hdg hlocks
theorem v_dret (C : Cx p s m args c cc nL own L) (hr : meth.sig.returnType = some .double) (hlocks : meth.locks = false) {P : UInt64 → St → Prop} {r : UInt64} (hP : P r g) (hdg : decode cc pc = .ok (.dreturn, 1)) : V p l e R s m args below meth c nL L (HH L g) cells slots (MQ below (va_Qd P (fun u t => HS L u t) (Af L)) args s cells slots (Af L)) pc lv [.double r] := fun H locs ls hI hS hl => W.dret C.1 C.2.1 hr (fun t ht hW => ⟨⟨r, g, rfl, hP, by show HH L g t.heap; rw [ht]; exact hI, C.2.2.2.2.2.go hW ht hS⟩, hS.F ht⟩) hS.2.2 hdg hlocks
theorem v_zret (C : Cx p s m args c cc nL own L) (hr : meth.sig.returnType = some .boolean) (hlocks : meth.locks = false) {P : Int32 → St → Prop} {z : Int} (hz : z = 0 ∨ z = 1) (hP : P (iI z) g) (hdg : decode cc pc = .ok (.ireturn, 1)) : V p l e R s m args below meth c nL L (HH L g) cells slots (MQ below (va_Qi P (fun u t => HS L u t) (Af L)) args s cells slots (Af L)) pc lv [.int (iI z)] := fun H locs ls hI hS hl => W.zret (ty := .boolean) C.1 C.2.1 hr (by rcases hz with rfl | rfl <;> rfl) (fun t ht hW => ⟨⟨iI z, g, rfl, hP, by show HH L g t.heap; rw [ht]; exact hI, C.2.2.2.2.2.go hW ht hS⟩, hS.F ht⟩) hS.2.2 hdg hlocks
theorem v_vret (C : Cx p s m args c cc nL own L) (hr : meth.sig.returnType = none) (hlocks : meth.locks = false) {P : St → Prop} (hP : P g) (hdg : decode cc pc = .ok (.return_, 1)) : V p l e R s m args below meth c nL L (HH L g) cells slots (MQ below (va_Qv P (fun u t => HS L u t) (Af L)) args s cells slots (Af L)) pc lv [] := fun H locs ls hI hS hl => W.vret C.1 C.2.1 hr (fun t ht hW => ⟨⟨g, rfl, hP, by show HH L g t.heap; rw [ht]; exact hI, C.2.2.2.2.2.go hW ht hS⟩, hS.F ht⟩) hS.2.2 hdg hlocks
end VD
