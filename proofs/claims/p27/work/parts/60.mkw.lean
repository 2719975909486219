/-! the world while it is made: its cells lie one behind another -/
def updE (w : Nat → va_E) (i : Nat) (e : va_E) : Nat → va_E := fun q => if q = i then e else w q
theorem updE_s {w : Nat → va_E} {i : Nat} {e : va_E} : updE w i e i = e := if_pos rfl
theorem updE_o {w : Nat → va_E} {i q : Nat} {e : va_E} (h : q ≠ i) : updE w i e q = w q := if_neg h
def wsN (L : Lay) (w : Nat → va_E) (n : Nat) : va_W := (List.range n).map (fun i => (L.2.2 + i, w i))
theorem wsN_at {L : Lay} {w : Nat → va_E} {n i : Nat} (h : i < n) : (wsN L w n)[i]? = some (L.2.2 + i, w i) := by
  unfold wsN; rw [List.getElem?_map, List.getElem?_range h]; rfl
theorem wsN_in {L : Lay} {w : Nat → va_E} {n k : Nat} {q : Nat × va_E} (h : (wsN L w n)[k]? = some q) : k < n ∧ q = (L.2.2 + k, w k) := by
  have hk : k < n := by
    have := (List.getElem?_eq_some_iff.mp h).1
    simpa [wsN] using this
  rw [wsN_at hk] at h
  exact ⟨hk, (Option.some.inj h).symm⟩
theorem wsN_D (L : Lay) (w : Nat → va_E) (n : Nat) : va_D (Af L) (wsN L w n) := by
  refine ⟨fun i j p q hp hq hpq => ?_, fun k q hq => ?_⟩
  · obtain ⟨-, rfl⟩ := wsN_in hp
    obtain ⟨-, rfl⟩ := wsN_in hq
    have h : L.2.2 + i = L.2.2 + j := hpq
    omega
  · obtain ⟨-, rfl⟩ := wsN_in hq
    show L.2.2 ≤ L.2.2 + k
    omega
def HN (L : Lay) (w : Nat → va_E) (n : Nat) (H : Heap) : Prop := H.size = L.2.2 + n ∧ va_P L.1 vwCl (wsN L w n) H
theorem hn_put {L : Lay} {w : Nat → va_E} {n i : Nat} {e : va_E} {H H1 : Heap} (hi : i < n) (h : HN L w n H) (hz : H1.size = H.size) (he : va_at L.1 vwCl (L.2.2 + i, e) H1) (oq : ∀ q : Nat, q ≠ L.2.2 + i → H1[q]? = H[q]?) : HN L (updE w i e) n H1 := by
  refine ⟨hz.trans h.1, fun k q hq => ?_⟩
  obtain ⟨hk, rfl⟩ := wsN_in hq
  by_cases hki : k = i
  · subst hki; rw [updE_s]; exact he
  · rw [updE_o hki]
    exact (h.2 k _ (wsN_at hk)).kept (oq _ (by show L.2.2 + k ≠ L.2.2 + i; omega))
theorem hn_new {L : Lay} {w : Nat → va_E} {n : Nat} {e : va_E} {H H1 : Heap} (h : HN L w n H) (hz : H1.size = L.2.2 + n + 1) (he : va_at L.1 vwCl (L.2.2 + n, e) H1) (oq : ∀ q : Nat, q < L.2.2 + n → H1[q]? = H[q]?) : HN L (updE w n e) (n + 1) H1 := by
  refine ⟨by rw [hz]; omega, fun k q hq => ?_⟩
  obtain ⟨hk, rfl⟩ := wsN_in hq
  by_cases hki : k = n
  · subst hki; rw [updE_s]; exact he
  · rw [updE_o hki]
    exact (h.2 k _ (wsN_at (by omega))).kept (oq _ (by show L.2.2 + k < L.2.2 + n; omega))
/-- what the constructors' links ask of the start -/
def Xt (U : State) : Prop := (va_Nw (.methodLinkNest RX1 17 yX0_init "CanyonBall") U ∧ va_Nw (.methodLinkNest RX1 40 yX2_init "CanyonBall") U ∧ va_Nw (.methodLinkNest RX6 33 yX5_init "CanyonBall") U ∧ va_Nw (.methodLinkNest RX6 40 yX0_init "CanyonBall") U ∧ va_Nw (.fieldLinkNest RX1 34 "CanyonBall" "FIRST_VALUES" "[I" "CanyonBall") U) ∧ va_AO "CanyonBall$Player" U ∧ va_AO "CanyonBall$Echo" U ∧ va_AO "CanyonBall$Canyon" U
theorem Xt.go {s t : State} (h : Xt s) (hW : s.WarmedH t.vm) : Xt t := by
  obtain ⟨⟨a, b, c, d, d2⟩, e, f, g⟩ := h
  exact ⟨⟨va_Nw.warmM hW a, va_Nw.warmM hW b, va_Nw.warmM hW c, va_Nw.warmM hW d, va_Nw.warmF hW d2⟩, va_AO.moved hW.alike e, va_AO.moved hW.alike f, va_AO.moved hW.alike g⟩
theorem Xt.calling {U : State} (h : Xt U) (g : JFrame) (mk : MethodId) (a : Array Value) : Xt (U.calling g mk a) := by
  obtain ⟨⟨x1, x2, x3, x4, x8⟩, x5, x6, x7⟩ := h
  have al := Vm.Alike.refl U.vm
  exact ⟨⟨va_Nw.same rfl (u := U) (U := U.calling g mk a) rfl x1, va_Nw.same rfl (u := U) (U := U.calling g mk a) rfl x2, va_Nw.same rfl (u := U) (U := U.calling g mk a) rfl x3, va_Nw.same rfl (u := U) (U := U.calling g mk a) rfl x4, va_Nw.same rfl (u := U) (U := U.calling g mk a) rfl x8⟩, va_AO.moved (u := U) (U := U.calling g mk a) al x5, va_AO.moved (u := U) (U := U.calling g mk a) al x6, va_AO.moved (u := U) (U := U.calling g mk a) al x7⟩
def NS (L : Lay) (w : Nat → va_E) (n : Nat) (U : State) : Prop := HN L w n U.heap ∧ Sm L U ∧ Xt U
abbrev WN : Type := (Nat → va_E) × Nat
theorem NS.blind {L : Lay} {w : Nat → va_E} {n : Nat} {As : List Value} : FrameBlind (va_Pc As (NS L w n)) := fun a U g' mk q => ⟨q.1, q.2.1, q.2.2.1.calling g' mk a, q.2.2.2.calling g' mk a⟩
theorem ct_mkN {l : Launch} {y : MethodName} {cc : ByteArray} {maxL : Nat} {ret : Option FieldType} {rm : Room} {As : List Value} {L : Lay} {w : Nat → va_E} {n : Nat} {Qc : Array Value → State → Outcome → State → Prop} {mc ms : Nat} (hy : plainName y.cls = true) (hyn : y.name = "<init>") (hlen : (lg_sl As).length ≤ maxL)
    (body : ∀ (p : Program) (e : Env) (s : State) (m : MethodId) (below : List Frame) (meth : Method) (c : Code), Cx p s m As.toArray c cc maxL y.cls L → Xt s → meth.name = "<init>" → meth.sig.returnType = ret → meth.locks = false → V p l e rm s m As.toArray below meth c maxL L (HN L w n) 0 0 (MQ below Qc As.toArray s mc ms (Af L)) 0 (lv_args 0 As) []) :
    Met l y (.code y cc maxL ret :: wsL_law) rm (va_Pc As (NS L w n)) Qc mc ms (Af L) := by
  refine Met.ofW (cc := cc) (maxL := maxL) (ret := ret) hy rfl ?_
  intro p e s m args below meth c s₁ B hml hv
  obtain ⟨rfl, hH, hSm, hXt⟩ := hv
  have hts := atoms_spec (ws := .code y cc maxL ret :: wsL_law) B.pre
  have hown : s.vm.findClass y.cls = some m.cls := findClass_of_methodNamed B.named
  have hin : meth.name = "<init>" := (name_of_methodNamed B.named B.method).1.trans hyn
  have hl := lv_entry As (n := maxL) hlen
  rw [lg_entry_eq]
  exact body p e s m below meth c ⟨B.exec, B.bytes, hml, hown, fun w h => hts w (List.mem_cons_of_mem _ h), hSm⟩ hXt hin B.returns B.notSynchronized s.heap [] _ hH va_S.rf hl
section VN
variable {p : Program} {l : Launch} {e : Env} {R : Room} {s : State} {m : MethodId} {args : Array Value} {below : List Frame} {meth : Method} {c : Code} {cells slots : Nat} {Q : State → Prop} {cc : ByteArray} {nL : Nat} {own : String} {L : Lay} {w : Nat → va_E} {n : Nat} {pc : Nat} {lv : List (Nat × Value)} {st : List Value}
theorem n_vret (C : Cx p s m args c cc nL own L) (X : Xt s) (hr : meth.sig.returnType = none) (hlocks : meth.locks = false) {P : WN → Prop} (hP : P (w, n)) (hdg : decode cc pc = .ok (.return_, 1)) : V p l e R s m args below meth c nL L (HN L w n) cells slots (MQ below (va_Qv P (fun x t => NS L x.1 x.2 t) (Af L)) args s cells slots (Af L)) pc lv [] := fun H locs ls hI hS hl => W.vret C.1 C.2.1 hr (fun t ht hW => ⟨⟨(w, n), rfl, hP, by show HN L w n t.heap; rw [ht]; exact hI, C.2.2.2.2.2.go hW ht hS, X.go hW⟩, hS.F ht⟩) hS.2.2 hdg hlocks
theorem n_obj (C : Cx p s m args c cc nL own L) {ix a : Nat} (hlink : Cond.methodLink own ix objectInit ∈ wsL_law) (hf : 1 ≤ R.frames) (hlo : (st.map fun v => v.category).sum + 12 ≤ R.locals) (hdg : decode cc pc = .ok (.invokespecial ix, 3)) (kk : V p l e R s m args below meth c nL L (HN L w n) cells slots Q (pc + 3) lv st) : V p l e R s m args below meth c nL L (HN L w n) cells slots Q pc lv (.ref a :: st) := by
  intro H locs ls hI hS hl
  refine W.objInit C.1 C.2.1 C.2.2.2.1 (C.2.2.2.2.1 _ hlink) (C.2.2.2.2.1 _ u_1_8) (C.2.2.2.2.1 _ u_1_9) rfl (by rw [C.2.2.1]; exact hl.1) rfl hdg hf (by show 2 * 0 + _ + 12 ≤ _; omega) ?_
  exact W.eq (g2 := F0 m (pc + 3) ls st) rfl (kk H locs ls hI hS hl)
theorem n_new (C : Cx p s m args c cc nL own L) {ix ci N : Nat} {Cn : String} {T : u_T} (hin : ∀ w ∈ u_ws Cn T N, w ∈ wsL_law) (ty : Nat → FieldType) (hty : ∀ k, k < N → parseFieldDescriptor (T k).2.2.1 = some (ty k)) (hcl : Cond.classLink own ix Cn ∈ wsL_law) (hinst : Cond.instantiable Cn N ∈ wsL_law) (hini : Cond.initialized Cn ∈ wsL_law) (hc : vwCl[ci]? = some (Cn, T, N)) {fs : List Value} (hfs : ∀ j, j < N → defaultValue (ty j) = vp_V fs j) (hcs : cells + 1 ≤ R.cells ∧ slots + N ≤ R.slots) (hdg : decode cc pc = .ok (.new ix, 3)) (kk : V p l e R s m args below meth c nL L (HN L (updE w n (.inr (ci, fs))) (n + 1)) (cells + 1) (slots + N) Q (pc + 3) lv (.ref (L.2.2 + n) :: st)) : V p l e R s m args below meth c nL L (HN L w n) cells slots Q pc lv st := by
  intro H locs ls hI hS hl
  have hK : va_K L.1 vwCl (tyL L) s := C.2.2.2.2.2.1
  have hKn := hK.1 ci _ hc
  refine W.newcK C.1 C.2.1 C.2.2.2.1 (C.2.2.2.2.1 _ hcl) (C.2.2.2.2.1 _ hinst) (C.2.2.2.2.1 _ hini) rfl hdg hcs.1 hcs.2 hKn.2.1 hI.1 fun H1 kC hkC e1 z1 o1 => ?_
  refine kk H1 locs ls (hn_new hI z1 ⟨_, hc, (u_born ty C.2.2.2.2.1 hin hKn hkC e1 hty).to hfs⟩ o1) ⟨Nat.le_trans hS.1 (by rw [z1, hI.1]; omega), fun x h1 h2 => (o1 x (by have := hS.1; have := hI.1; omega)).trans (hS.2.1 x h1 h2), hS.2.2⟩ hl
theorem n_newa (C : Cx p s m args c cc nL own L) {atype : ArrayType} {ty : FieldType} {cA : ClassId} (t0 : Nat) (ht : (tyL L)[t0]? = some (cA, ty)) (hty : newarray.typeOf atype = ty) (hnm : va_RA s cA ty → s.vm.findClass ("[" ++ ty.toString) = some cA) (harr : Cond.arrayClass ty ∈ wsL_law) {k : Int} {N : Nat} {a0 : vp_A} (ha : vp_cell cA a0 = arrV cA N (fun _ => defaultValue ty)) (hk : 0 ≤ k ∧ k.toNat = N ∧ k ≤ 100000) (hbytes : N * componentBytes ty ≤ 536870912) (hcs : cells + 1 ≤ R.cells ∧ slots + N ≤ R.slots) (hdg : decode cc pc = .ok (.newarray atype, 2)) (kk : V p l e R s m args below meth c nL L (HN L (updE w n (.inl (cA, a0))) (n + 1)) (cells + 1) (slots + N) Q (pc + 2) lv (.ref (L.2.2 + n) :: st)) : V p l e R s m args below meth c nL L (HN L w n) cells slots Q pc lv (.int (iI k) :: st) := by
  intro H locs ls hI hS hl
  subst hty
  have hr : rg k := ⟨by omega, by omega⟩
  have hK : va_K L.1 vwCl (tyL L) s := C.2.2.2.2.2.1
  refine va_newaK C.1 C.2.1 (C.2.2.2.2.1 _ harr) rfl hdg rfl (fun h => ?_) (by rw [iI_nat hr]; exact hk.2.1) hbytes hcs.1 hcs.2 hI.1 fun H1 cB e1 z1 o1 hAr hNm => ?_
  · have := (iI_lt hr (show rg 0 from ⟨by decide, by decide⟩)).mp h
    omega
  · have hcB : cB = cA := Option.some.inj (hNm.symm.trans (hnm (hK.2 t0 _ ht).2))
    subst hcB
    refine kk H1 locs ls (hn_new hI z1 (by show H1[L.2.2 + n]? = some (vp_cell _ _); rw [ha]; exact e1) o1) ⟨Nat.le_trans hS.1 (by rw [z1, hI.1]; omega), fun x h1 h2 => (o1 x (by have := hS.1; have := hI.1; omega)).trans (hS.2.1 x h1 h2), hS.2.2⟩ hl
theorem n_newq (C : Cx p s m args c cc nL own L) {ix t0 : Nat} {Cn : String} {cA : ClassId} (ht : (tyL L)[t0]? = some (cA, .object Cn)) (hover : va_AO Cn s) (hcl : Cond.classLink own ix Cn ∈ wsL_law) {k : Int} {N : Nat} (hk : 0 ≤ k ∧ k.toNat = N ∧ k ≤ 1000) (hcs : cells + 1 ≤ R.cells ∧ slots + N ≤ R.slots) (hdg : decode cc pc = .ok (.anewarray ix, 3)) (kk : V p l e R s m args below meth c nL L (HN L (updE w n (.inl (cA, N, .inr (.inr (.inr (.inr (fun _ => none))))))) (n + 1)) (cells + 1) (slots + N) Q (pc + 3) lv (.ref (L.2.2 + n) :: st)) : V p l e R s m args below meth c nL L (HN L w n) cells slots Q pc lv (.int (iI k) :: st) := by
  intro H locs ls hI hS hl
  have hr : rg k := ⟨by omega, by omega⟩
  have hN : (iI k).toNatClampNeg = N := by rw [iI_nat hr]; exact hk.2.1
  have hK : va_K L.1 vwCl (tyL L) s := C.2.2.2.2.2.1
  refine W.anew C.1 C.2.1 C.2.2.2.1 (C.2.2.2.2.1 _ hcl) (va_AO.use hover) rfl hdg rfl (fun h => ?_) (by rw [hN]; omega) hcs.1 (by rw [hN]; exact hcs.2) fun cB kA comp f1 f2 f3 f4 => ?_
  · have := (iI_lt hr (show rg 0 from ⟨by decide, by decide⟩)).mp h
    omega
  · obtain ⟨kA2, comp2, -, -, -, g4⟩ := (hK.2 t0 _ ht).2
    have hcB : cB = cA := Option.some.inj (f1.symm.trans g4)
    subst hcB
    rw [hN]
    generalize hH1 : H.push ({ cls := cB, slots := Array.replicate N .null, vm := .none } : Cell) = H1
    have z1 : H1.size = L.2.2 + n + 1 := by rw [← hH1, Array.size_push, hI.1]
    have e1 : H1[L.2.2 + n]? = some (arrV cB N (fun _ => .null)) := by rw [← hH1, ← hI.1, Array.getElem?_push_size, ← arrV_new]
    have o1 : ∀ q : Nat, q < L.2.2 + n → H1[q]? = H[q]? := fun q hq => by rw [← hH1, Array.getElem?_push, if_neg (by rw [hI.1]; omega)]
    rw [hI.1]
    refine kk H1 locs ls (hn_new hI z1 (by show H1[L.2.2 + n]? = some (vp_cell _ _); rw [vp_cell_q]; exact e1) o1) ⟨Nat.le_trans hS.1 (by rw [z1, hI.1]; omega), fun x h1 h2 => (o1 x (by have := hS.1; have := hI.1; omega)).trans (hS.2.1 x h1 h2), hS.2.2⟩ hl
theorem n_put (C : Cx p s m args c cc nL own L) {ix ci i N : Nat} {fs : List Value} {v : Value} {ref Cn : String} {T : u_T} {ty0 : Nat → FieldType} {ty : FieldType} (q : Nat) (hi : i < n) (he : w i = .inr (ci, fs)) (hc : vwCl[ci]? = some (Cn, T, N)) (hin : ∀ w ∈ u_ws Cn T N, w ∈ wsL_law) (hty : ∀ k, k < N → parseFieldDescriptor (T k).2.2.1 = some (ty0 k)) (hnm : ∀ a, a < N → ∀ b, b < N → a ≠ b → (T a).2.1 ≠ (T b).2.1) (hq : q < N) (hw : Cond.fieldLink own ix ref (T q).2.1 (T q).2.2.1 ∈ wsL_law) (hs : (T q).1 = ref) (hfin : (T q).2.2.2 = false) (hd : parseFieldDescriptor (T q).2.2.1 = some ty) (hna : narrow ty v = v) (hfit : fits ty v = true) (hlen : q < fs.length) (hdg : decode cc pc = .ok (.putfield ix, 3))
    (kk : V p l e R s m args below meth c nL L (HN L (updE w i (.inr (ci, fs.set q v))) n) cells slots Q (pc + 3) lv st) : V p l e R s m args below meth c nL L (HN L w n) cells slots Q pc lv (v :: .ref (L.2.2 + i) :: st) := by
  intro H locs ls hI hS hl
  have hK : va_K L.1 vwCl (tyL L) s := C.2.2.2.2.2.1
  have hap := va_apart (own := own) C.2.2.2.2.1 hin ty0 hty hnm hK hc
  have hat := hI.2 i _ (wsN_at hi)
  rw [he] at hat
  obtain ⟨r, h1, cell, q1, q2, q3, q4⟩ := hat
  cases Option.some.inj (h1.symm.trans hc)
  obtain ⟨hSl, hfc, kC, hkC, hkind⟩ := hK.1 ci _ hc
  obtain ⟨cf, kf, fi, f, hfi, hsl⟩ := hSl q hq
  have hlay := C.2.2.2.2.1 _ (hin _ (u_in_lay hq))
  unfold u_lay at hlay
  rw [if_neg (by rw [hfin]; decide)] at hlay
  have hst := (u_facts hfc hkC (u_lays C.2.2.2.2.1 hin hq) hfi).1
  have h6 := u_store hfc hkC hkind hlay hfi hd hna hfit
  refine W.putK C.1 C.2.1 (f := f) ⟨C.2.2.2.1, C.2.2.2.2.1 _ hw, ⟨_, _, _, by rw [← hs]; exact hfi⟩, hst⟩ (by rw [q2]; exact h6) q1 q3 (by rw [hsl]; exact k2_hasslot (q4 q hq)) rfl rfl hdg fun H1 e1 e2 e3 => ?_
  rw [hsl] at e1 ⊢
  exact kk H1 _ ls (hn_put hi hI e2 ⟨_, hc, t_OB.to (V := updV (vp_V fs) q v) ⟨_, e1, q2, q3, t_set q4 hap hq v⟩ (fun j _ => vp_updV_set hlen v j)⟩ e3) (hS.put e2 e3 (by show L.2.2 ≤ L.2.2 + i; omega)) hl
theorem n_putF (C : Cx p s m args c cc nL own L) (hin2 : meth.name = "<init>") {ix ci i N : Nat} {fs : List Value} {v : Value} {Cn : String} {T : u_T} {ty0 : Nat → FieldType} {ty : FieldType} (q : Nat) (hi : i < n) (he : w i = .inr (ci, fs)) (hc : vwCl[ci]? = some (Cn, T, N)) (hin : ∀ w ∈ u_ws Cn T N, w ∈ wsL_law) (hty : ∀ k, k < N → parseFieldDescriptor (T k).2.2.1 = some (ty0 k)) (hnm : ∀ a, a < N → ∀ b, b < N → a ≠ b → (T a).2.1 ≠ (T b).2.1) (hq : q < N) (hw : Cond.fieldLink own ix own (T q).2.1 (T q).2.2.1 ∈ wsL_law) (hs : (T q).1 = own) (hfin : (T q).2.2.2 = true) (hd : parseFieldDescriptor (T q).2.2.1 = some ty) (hna : narrow ty v = v) (hfit : fits ty v = true) (hlen : q < fs.length) (hdg : decode cc pc = .ok (.putfield ix, 3))
    (kk : V p l e R s m args below meth c nL L (HN L (updE w i (.inr (ci, fs.set q v))) n) cells slots Q (pc + 3) lv st) : V p l e R s m args below meth c nL L (HN L w n) cells slots Q pc lv (v :: .ref (L.2.2 + i) :: st) := by
  intro H locs ls hI hS hl
  have hK : va_K L.1 vwCl (tyL L) s := C.2.2.2.2.2.1
  have hap := va_apart (own := own) C.2.2.2.2.1 hin ty0 hty hnm hK hc
  have hat := hI.2 i _ (wsN_at hi)
  rw [he] at hat
  obtain ⟨r, h1, cell, q1, q2, q3, q4⟩ := hat
  cases Option.some.inj (h1.symm.trans hc)
  obtain ⟨hSl, hfc, kC, hkC, hkind⟩ := hK.1 ci _ hc
  obtain ⟨cf, kf, fi, f, hfi, hsl⟩ := hSl q hq
  have hlay := C.2.2.2.2.1 _ (hin _ (u_in_lay hq))
  unfold u_lay at hlay
  rw [if_pos hfin] at hlay
  have hst := (u_facts hfc hkC (u_lays C.2.2.2.2.1 hin hq) hfi).1
  have hcf : m.cls = cf := by
    obtain ⟨_, _, c', _, _, _, -, -, hf', -, -, -, hown2, -⟩ := Cond.laysFinal_spec hlay
    have e1 : c' = cf := by have := hfi.symm.trans hf'; simp at this; exact this.1.symm
    rw [hs] at hown2
    rw [← e1]; exact Option.some.inj (C.2.2.2.1.symm.trans hown2)
  have h6 := u_fits hfc hkC hkind (Or.inr hlay) hfi hd hna hfit
  refine W.putFinK C.1 C.2.1 C.2.2.2.1 (C.2.2.2.2.1 _ hw) (by have := hfi; rw [hs] at this; exact this) hst hcf hin2 (by rw [q2]; exact h6) q1 q3 (by rw [hsl]; exact k2_hasslot (q4 q hq)) rfl rfl hdg fun H1 e1 e2 e3 => ?_
  rw [hsl] at e1 ⊢
  exact kk H1 _ ls (hn_put hi hI e2 ⟨_, hc, t_OB.to (V := updV (vp_V fs) q v) ⟨_, e1, q2, q3, t_set q4 hap hq v⟩ (fun j _ => vp_updV_set hlen v j)⟩ e3) (hS.put e2 e3 (by show L.2.2 ≤ L.2.2 + i; omega)) hl
theorem n_get (C : Cx p s m args c cc nL own L) {ix ci i N : Nat} {fs : List Value} {v : Value} {ref Cn : String} {T : u_T} (q : Nat) (hi : i < n) (he : w i = .inr (ci, fs)) (hc : vwCl[ci]? = some (Cn, T, N)) (hin : ∀ w ∈ u_ws Cn T N, w ∈ wsL_law) (hq : q < N) (hw : Cond.fieldLink own ix ref (T q).2.1 (T q).2.2.1 ∈ wsL_law) (hs : (T q).1 = ref) (hv : fs[q]? = some v) (hdg : decode cc pc = .ok (.getfield ix, 3)) (kk : V p l e R s m args below meth c nL L (HN L w n) cells slots Q (pc + 3) lv (v :: st)) : V p l e R s m args below meth c nL L (HN L w n) cells slots Q pc lv (.ref (L.2.2 + i) :: st) := by
  intro H locs ls hI hS hl
  have hn := wsN_at (L := L) (w := w) hi
  rw [he] at hn
  exact va_get (D := L.1) (cl := vwCl) C.1 C.2.1 C.2.2.2.2.1 hin C.2.2.2.1 C.2.2.2.2.2.1 hI.2 i hn hc q hq (C.2.2.2.2.1 _ hw) (fun x hx => by rw [← hs]; exact hx) hv hdg (kk H locs ls hI hS hl)
theorem n_iast (C : Cx p s m args c cc nL own L) {i t0 N : Nat} {k z : Int} {cA : ClassId} {fn : Nat → Int32} (hi : i < n) (he : w i = .inl (cA, N, .inl fn)) (ht : (tyL L)[t0]? = some (cA, .int)) (h : 0 ≤ k ∧ k < N) (hN : N < 2147483648) (hdg : decode cc pc = .ok (.iastore, 1)) (kk : V p l e R s m args below meth c nL L (HN L (updE w i (.inl (cA, N, .inl (upd fn k.toNat (iI z))))) n) cells slots Q (pc + 1) lv st) : V p l e R s m args below meth c nL L (HN L w n) cells slots Q pc lv (.int (iI z) :: .int (iI k) :: .ref (L.2.2 + i) :: st) := by
  intro H locs ls hI hS hl
  have hK : va_K L.1 vwCl (tyL L) s := C.2.2.2.2.2.1
  have hat := hI.2 i _ (wsN_at hi)
  rw [he] at hat
  refine W.iast C.1 C.2.1 hat ((hK.2 t0 _ ht).1 N (fun j => .int (fn j))) (fun q => by cases q) (by show ¬ (iI k < 0 ∨ (arrV _ _ _).slots.size ≤ _); rw [arrV_size]; exact iI_ix h.1 h.2 hN) rfl rfl hdg fun H1 e1 e2 e3 => ?_
  refine kk H1 _ ls (hn_put hi hI e2 ?_ e3) (hS.put e2 e3 (by show L.2.2 ≤ L.2.2 + i; omega)) hl
  show H1[L.2.2 + i]? = some (vp_cell _ _)
  rw [e1, vp_cell_i, vp_cell_i, arrV_store, iI_nat ⟨by omega, by omega⟩]
  congr 2
  funext q
  by_cases hq : q = k.toNat
  · subst hq; simp [updV, upd]
  · simp [updV, upd, hq]
theorem n_aast (C : Cx p s m args c cc nL own L) {i t0 i2 ci N : Nat} {k : Int} {cA : ClassId} {r : vw_C} {vs : List Value} {fn : Nat → Option Nat} (hi : i < n) (he : w i = .inl (cA, N, .inr (.inr (.inr (.inr fn))))) (ht : (tyL L)[t0]? = some (cA, .object r.1)) (hi2 : i2 < n) (he2 : w i2 = .inr (ci, vs)) (hc : vwCl[ci]? = some r) (h : 0 ≤ k ∧ k < N) (hN : N < 2147483648) (hdg : decode cc pc = .ok (.aastore, 1)) (kk : V p l e R s m args below meth c nL L (HN L (updE w i (.inl (cA, N, .inr (.inr (.inr (.inr (va_up fn k.toNat (some (L.2.2 + i2)))))))) ) n) cells slots Q (pc + 1) lv st) : V p l e R s m args below meth c nL L (HN L w n) cells slots Q pc lv (.ref (L.2.2 + i2) :: .int (iI k) :: .ref (L.2.2 + i) :: st) := by
  intro H locs ls hI hS hl
  have hK : va_K L.1 vwCl (tyL L) s := C.2.2.2.2.2.1
  have hat := hI.2 i _ (wsN_at hi)
  have hat2 := hI.2 i2 _ (wsN_at hi2)
  rw [he] at hat
  rw [he2] at hat2
  obtain ⟨r', hr', cellV, g1, g2, g3, -⟩ := hat2
  have hcls := (hK.1 ci r hc).2
  obtain ⟨kA, comp, k1, k2, k3, -⟩ := (hK.2 t0 _ ht).2
  have hcomp : comp = L.1.1 ci := Option.some.inj (k3.symm.trans hcls.1)
  subst hcomp
  obtain ⟨kC, hkC, -⟩ := hcls.2
  have hix := iI_ix h.1 h.2 hN
  refine W.aast C.1 C.2.1 hat (fun q h => by cases h) (fun h => by cases h) k1 k2 rfl hkC ⟨fun h2 => hix (Or.inl h2), by show _ < (arrV _ _ _).slots.size; rw [arrV_size]; exact Nat.not_le.mp (fun h2 => hix (Or.inr h2))⟩ g1 (fun q h => by rw [g3] at h; cases h) (by rw [g2]; exact hkC) (by rw [g2]; exact va_assign hcls) rfl rfl hdg fun H1 e1 e2 e3 => ?_
  refine kk H1 _ ls (hn_put hi hI e2 ?_ e3) (hS.put e2 e3 (by show L.2.2 ≤ L.2.2 + i; omega)) hl
  show H1[L.2.2 + i]? = some (vp_cell _ _)
  rw [e1, vp_cell_q, vp_cell_q, arrV_store, iI_nat ⟨by omega, by omega⟩]
  congr 2
  funext q
  by_cases hq : q = k.toNat
  · subst hq; simp [updV, va_up, va_rf]
  · simp [updV, va_up, hq]
theorem n_alen (C : Cx p s m args c cc nL own L) {i t0 : Nat} {cA : ClassId} {x : vp_A} {ty : FieldType} (hi : i < n) (he : w i = .inl (cA, x)) (ht : (tyL L)[t0]? = some (cA, ty)) (z : Int) (hz : Int32.ofNat x.1 = iI z) (hdg : decode cc pc = .ok (.arraylength, 1)) (kk : V p l e R s m args below meth c nL L (HN L w n) cells slots Q (pc + 1) lv (.int (iI z) :: st)) : V p l e R s m args below meth c nL L (HN L w n) cells slots Q pc lv (.ref (L.2.2 + i) :: st) := by
  intro H locs ls hI hS hl
  have hn := wsN_at (L := L) (w := w) hi
  rw [he] at hn
  exact va_alen (D := L.1) (cl := vwCl) C.1 C.2.1 C.2.2.2.2.2.1 hI.2 i t0 hn ht hz hdg (kk H locs ls hI hS hl)
theorem n_gets (C : Cx p s m args c cc nL own L) {ix : Nat} {nm ref : String} {t : Nat} (hZ : va_Z "CanyonBall" nm "[I" (.ref t) (Af L) s s.heap) (hs : "CanyonBall" = ref) (hw : Cond.fieldLink own ix ref nm "[I" ∈ wsL_law) (hdg : decode cc pc = .ok (.getstatic ix, 3)) (kk : V p l e R s m args below meth c nL L (HN L w n) cells slots Q (pc + 3) lv (.ref t :: st)) : V p l e R s m args below meth c nL L (HN L w n) cells slots Q pc lv st := fun H locs ls hI hS hl => va_gets C.1 C.2.1 hZ hS C.2.2.2.1 (C.2.2.2.2.1 _ hw) (fun x hx => by rw [← hs]; exact hx) hdg (kk H locs ls hI hS hl)
theorem n_getsN (C : Cx p s m args c cc nL own L) {ix : Nat} {nm ref host : String} {t : Nat} (hZ : va_Z "CanyonBall" nm "[I" (.ref t) (Af L) s s.heap) (hs : "CanyonBall" = ref) (hw : va_Nw (.fieldLinkNest own ix ref nm "[I" host) s) (hdg : decode cc pc = .ok (.getstatic ix, 3)) (kk : V p l e R s m args below meth c nL L (HN L w n) cells slots Q (pc + 3) lv (.ref t :: st)) : V p l e R s m args below meth c nL L (HN L w n) cells slots Q pc lv st := fun H locs ls hI hS hl => va_getsN C.1 C.2.1 hZ hS C.2.2.2.1 (ref := ref) (va_Nw.use rfl hw) (fun x hx => by rw [← hs]; exact hx) hdg (kk H locs ls hI hS hl)
theorem n_ti (C : Cx p s m args c cc nL own L) {t : Nat} {f : Nat → Value} {a : Int} (hT : va_T .int t 3 f (Af L) s s.heap) (h : 0 ≤ a ∧ a < 3) (z : Int) (hv : f a.toNat = .int (iI z)) (hdg : decode cc pc = .ok (.iaload, 1)) (kk : V p l e R s m args below meth c nL L (HN L w n) cells slots Q (pc + 1) lv (.int (iI z) :: st)) : V p l e R s m args below meth c nL L (HN L w n) cells slots Q pc lv (.int (iI a) :: .ref t :: st) := fun H locs ls hI hS hl => va_ti C.1 C.2.1 hT hS (iI_ix h.1 h.2 (by decide)) (by rw [iI_nat ⟨by omega, by omega⟩]; exact hv) hdg (kk H locs ls hI hS hl)
theorem n_widen {k z : Nat} (h1 : cells ≤ k) (h2 : slots ≤ z) (kk : V p l e R s m args below meth c nL L (HN L w n) k z Q pc lv st) : V p l e R s m args below meth c nL L (HN L w n) cells slots Q pc lv st := fun H locs ls hI hS hl => W.widen h1 h2 (kk H locs ls hI hS hl)
theorem n_w {w2 : Nat → va_E} {n2 : Nat} (h : w = w2) (h2 : n = n2) (kk : V p l e R s m args below meth c nL L (HN L w2 n2) cells slots Q pc lv st) : V p l e R s m args below meth c nL L (HN L w n) cells slots Q pc lv st := by
  subst h; subst h2; exact kk
variable {ix k maxL fr lo mc ms : Nat} {y : MethodName} {bytes : ByteArray} {ret : Option FieldType} {rm : Room}
theorem n_pre {As : List Value} (C : Cx p s m args c cc nL own L) (X : Xt s) {H : Heap} {locs : List Loc} (hI : HN L w n H) (hS : va_S (Af L) s.heap H locs) : ∀ U : State, U.heap = H → s.WarmedH U.vm → va_Pc As (NS L w n) As.toArray U := fun U hU hW => ⟨rfl, by show HN L w n U.heap; rw [hU]; exact hI, C.2.2.2.2.2.go hW hU hS, X.go hW⟩
theorem n_call (C : Cx p s m args c cc nL own L) (X : Xt s) {P : WN → Prop} {As st0 : List Value} {i : Nat} (hw : Cond.methodLink own ix y ∈ wsL_law ∧ Cond.instanceMethod y ∈ wsL_law ∧ Cond.initialized y.cls ∈ wsL_law ∧ Cond.code y bytes maxL none ∈ wsL_law) (hd : y.name = "<init>" ∧ y.cls ≠ "java/lang/invoke/MethodHandle" ∧ y.cls ≠ "java/lang/invoke/VarHandle" ∧ (parseMethodDescriptor y.desc).map (fun d => d.parameters.length) = some k) (hM : Met l y (.code y bytes maxL none :: wsL_law) { frames := fr, cells := mc, slots := ms, locals := lo } (va_Pc (.ref (L.2.2 + i) :: As) (NS L w n)) (va_Qv P (fun x t => NS L x.1 x.2 t) (Af L)) mc ms (Af L)) (hR : fr + 1 ≤ R.frames ∧ 8 + (maxL + 11) + lo ≤ R.locals) (hn : As.length = k) (hst : (st.map fun v => v.category).sum ≤ 8) (hcs : cells + mc ≤ R.cells ∧ slots + ms ≤ R.slots) (h0 : st0 = As.reverse ++ .ref (L.2.2 + i) :: st) (hdg : decode cc pc = .ok (.invokespecial ix, 3)) (kk : ∀ x : WN, P x → V p l e R s m args below meth c nL L (HN L x.1 x.2) (cells + mc) (slots + ms) Q (pc + 3) lv st) : V p l e R s m args below meth c nL L (HN L w n) cells slots Q pc lv st0 := by
  subst h0
  intro H locs ls hI hS hl
  have hG : GoodIn wsL_law (.code y bytes maxL none :: wsL_law) := fun w h => by
    have hm : w ∈ wsL_law := (List.mem_cons.mp h).elim (fun e => by rw [e]; exact hw.2.2.2) id
    exact ⟨hm, gU w hm⟩
  exact va_callv (va_runI (As := As) (rest := st) (Ts := wsL_law) ⟨C.1, C.2.1, C.2.2.1, C.2.2.2.1, C.2.2.2.2.1⟩ hM (cwI k C.2.2.2.2.1 hG rfl rfl rfl (C.2.2.2.2.1 _ hw.2.2.1) (C.2.2.2.2.1 _ hw.1) (C.2.2.2.2.1 _ hw.2.1) hd.1 hd.2 hR) ⟨NS.blind, n_pre C X hI hS⟩ rfl hn hl.1 rfl (lv_room hst) hdg hcs) hS (fun _ _ h => h) (fun _ h => h) (fun x t H1 locs1 ht hA hp hB _ _ hS1 => kk x hp H1 locs1 ls (by rw [← ht]; exact hB.1) hS1 hl)
theorem n_callN (C : Cx p s m args c cc nL own L) (X : Xt s) {host : String} {P : WN → Prop} {As st0 : List Value} {i : Nat} (hln : va_Nw (.methodLinkNest own ix y host) s) (hw : Cond.instanceMethod y ∈ wsL_law ∧ Cond.initialized y.cls ∈ wsL_law ∧ Cond.code y bytes maxL none ∈ wsL_law) (hd : y.name = "<init>" ∧ y.cls ≠ "java/lang/invoke/MethodHandle" ∧ y.cls ≠ "java/lang/invoke/VarHandle" ∧ (parseMethodDescriptor y.desc).map (fun d => d.parameters.length) = some k) (hM : Met l y (.code y bytes maxL none :: wsL_law) { frames := fr, cells := mc, slots := ms, locals := lo } (va_Pc (.ref (L.2.2 + i) :: As) (NS L w n)) (va_Qv P (fun x t => NS L x.1 x.2 t) (Af L)) mc ms (Af L)) (hR : fr + 1 ≤ R.frames ∧ 8 + (maxL + 11) + lo ≤ R.locals) (hn : As.length = k) (hst : (st.map fun v => v.category).sum ≤ 8) (hcs : cells + mc ≤ R.cells ∧ slots + ms ≤ R.slots) (h0 : st0 = As.reverse ++ .ref (L.2.2 + i) :: st) (hdg : decode cc pc = .ok (.invokespecial ix, 3)) (kk : ∀ x : WN, P x → V p l e R s m args below meth c nL L (HN L x.1 x.2) (cells + mc) (slots + ms) Q (pc + 3) lv st) : V p l e R s m args below meth c nL L (HN L w n) cells slots Q pc lv st0 := by
  subst h0
  intro H locs ls hI hS hl
  have hG : GoodIn wsL_law (.code y bytes maxL none :: wsL_law) := fun w h => by
    have hm : w ∈ wsL_law := (List.mem_cons.mp h).elim (fun e => by rw [e]; exact hw.2.2) id
    exact ⟨hm, gU w hm⟩
  exact va_callv (va_runIN (As := As) (rest := st) (Ts := wsL_law) ⟨C.1, C.2.1, C.2.2.1, C.2.2.2.1, C.2.2.2.2.1⟩ hM ⟨va_cnB k C.2.2.2.2.1 hG rfl rfl rfl hln (C.2.2.2.2.1 _ hw.2.1) hd.2 hR, hd.1, C.2.2.2.2.1 _ hw.1⟩ ⟨NS.blind, n_pre C X hI hS⟩ rfl hn hl.1 rfl (lv_room hst) hdg hcs) hS (fun _ _ h => h) (fun _ h => h) (fun x t H1 locs1 ht hA hp hB _ _ hS1 => kk x hp H1 locs1 ls (by rw [← ht]; exact hB.1) hS1 hl)
end VN
