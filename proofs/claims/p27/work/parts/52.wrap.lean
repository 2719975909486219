/-! a row made within a turn -/
def sL (L : Lay) (n : Nat) : Lay := (L.1, (fun t => if t = 6 then n else L.2.1 t), L.2.2)
def z18 (g : St) : St := fun f k j i => if f = 18 then 0 else g f k j i
theorem z18_zz (g : St) : zz g (z18 g) := fun f k hf _ => by
  funext j i; simp only [z18]; rw [if_neg (by omega)]
theorem sL_adr (L : Lay) (n : Nat) {f : Nat} (h : f ≠ 18) (k j : Int) : adr (sL L n) f k j = adr L f k j := by
  unfold adr; rw [if_neg h, if_neg h]; rfl
theorem sL_cell (L : Lay) (n f : Nat) (k j : Int) (v : Int → Int) : cellT (sL L n) f k j v = cellT L f k j v := by
  unfold cellT
  split <;> rfl
theorem kl_1p {L : Lay} {k : Nat} {x : Nat × Int × Int} (h : kl1[k]? = some x) : (kl L)[k]? = some x := by
  unfold kl
  rw [List.getElem?_append_left (List.getElem?_eq_some_iff.mp h).1]; exact h
theorem HH_drop {L : Lay} {n : Nat} {g : St} {H : Heap} (h0 : su L = 0) (h : HH (sL L n) g H) : HH L g H := by
  intro k q hq
  simp only [wl, List.getElem?_map, Option.map_eq_some_iff] at hq
  obtain ⟨x, hx, rfl⟩ := hq
  rcases kl_cs hx with ⟨h1, h2, -⟩ | ⟨-, -, h3⟩
  · have e := h k (adr (sL L n) x.1 x.2.1 x.2.2, cellT (sL L n) x.1 x.2.1 x.2.2 (g x.1 x.2.1 x.2.2)) (by simp only [wl, List.getElem?_map, kl_1p h1, Option.map_some])
    rw [sL_adr L n h2, sL_cell] at e
    exact e
  · omega
theorem HH_add {L : Lay} {n : Nat} {g : St} {H H1 : Heap} (hn : 0 < n) (h : HH L g H) (hs : H.size = L.2.2 + 308 + n) (hk : ∀ q, q < H.size → H1[q]? = H[q]?) (hc : va_at L.1 vwCl (L.2.2 + 308 + n, cellT L 18 0 0 (fun _ => 0)) H1) : HH (sL L n) (z18 g) H1 := by
  intro k q hq
  simp only [wl, List.getElem?_map, Option.map_eq_some_iff] at hq
  obtain ⟨x, hx, rfl⟩ := hq
  rcases kl_cs hx with ⟨h1, h2, h3⟩ | ⟨rfl, -, h3⟩
  · have e := h k (adr L x.1 x.2.1 x.2.2, cellT L x.1 x.2.1 x.2.2 (g x.1 x.2.1 x.2.2)) (by simp only [wl, List.getElem?_map, kl_1p h1, Option.map_some])
    rw [sL_adr L n h2, sL_cell]
    have e2 : z18 g x.1 x.2.1 x.2.2 = g x.1 x.2.1 x.2.2 := by funext i; simp only [z18]; rw [if_neg h2]
    rw [e2]
    refine e.kept (hk _ ?_)
    show adr L x.1 x.2.1 x.2.2 < H.size
    unfold adr
    rw [if_neg h2, hs]; omega
  · have ea : adr (sL L n) 18 0 0 = L.2.2 + 308 + n := by
      unfold adr; rw [if_pos rfl]
      show L.2.2 + (308 + n) = _
      omega
    rw [sL_cell, ea]
    exact hc
section VS
variable {p : Program} {l : Launch} {e : Env} {R : Room} {s : State} {m : MethodId} {args : Array Value} {below : List Frame} {meth : Method} {c : Code} {cells slots : Nat} {Q Q2 : State → Prop} {cc : ByteArray} {nL : Nat} {own : String} {L : Lay} {g : St} {pc : Nat} {lv : List (Nat × Value)} {st : List Value} {I : Heap → Prop}
theorem V_mono (h : ∀ t, Q t → Q2 t) (k : V p l e R s m args below meth c nL L I cells slots Q pc lv st) : V p l e R s m args below meth c nL L I cells slots Q2 pc lv st := fun H locs ls hI hS hl T hT X => by
  obtain ⟨t, a, b⟩ := k H locs ls hI hS hl T hT X
  exact ⟨t, a, h t b⟩
theorem v_newsum (C : Cx p s m args c cc nL own L) (hcs : cells + 1 ≤ R.cells ∧ slots + 6 ≤ R.slots) (hdg : decode cc pc = .ok (.newarray .int, 2)) (kk : ∀ n, 0 < n → V p l e R s m args below meth c nL L (HH (sL L n) (z18 g)) (cells + 1) (slots + 6) Q (pc + 2) lv (.ref (adr (sL L n) 18 0 0) :: st)) : V p l e R s m args below meth c nL L (HH L g) cells slots Q pc lv (.int (iI 6) :: st) := by
  intro H locs ls hI hS hl
  have hK : va_K L.1 vwCl (tyL L) s := C.2.2.2.2.2.1
  have hsz : L.2.2 + 308 < H.size := by
    obtain ⟨n, -, hn⟩ := wl_at L g (f := 17) (k := 0) (j := 0) (kl_0 (by decide))
    have e1 : H[adr L 17 0 0]? = some (vp_cell _ _) := hI n _ hn
    have e2 := (Array.getElem?_eq_some_iff.mp e1).1
    exact e2
  obtain ⟨n, hn⟩ : ∃ n, H.size = L.2.2 + 308 + n := ⟨H.size - (L.2.2 + 308), by omega⟩
  have hr : rg (6 : Int) := by decide
  refine va_newaK (atype := .int) C.1 C.2.1 (C.2.2.2.2.1 _ u_1_3) rfl hdg rfl (fun h => ?_) (N := 6) (by rw [iI_nat hr]; rfl) (by decide) hcs.1 hcs.2 hn fun H1 cB e1 z1 o1 hAr hNm => ?_
  · have := (iI_lt hr (show rg 0 from ⟨by decide, by decide⟩)).mp h
    omega
  · have hcB : cB = L.2.1 0 := Option.some.inj (hNm.symm.trans (va_nm_int (hK.2 0 _ rfl).2))
    subst hcB
    have k := kk n (by omega) H1 locs ls (HH_add (by omega) hI hn (fun q hq => o1 q (by omega)) (by
      show H1[L.2.2 + 308 + n]? = some (vp_cell _ _)
      rw [e1, vp_cell_i]
      rfl)) ⟨Nat.le_trans hS.1 (by rw [z1, hn]; omega), fun x h1 h2 => (o1 x (by have := hS.1; omega)).trans (hS.2.1 x h1 h2), hS.2.2⟩ hl
    have ea : adr (sL L n) 18 0 0 = L.2.2 + 308 + n := by
      unfold adr; rw [if_pos rfl]
      show L.2.2 + (308 + n) = _
      omega
    rw [ea] at k
    exact k
end VS
set_option maxHeartbeats 4000000 in
set_option maxRecDepth 100000 in
theorem ct_L_isSo (l : Launch) (L : Lay) (h0 : su L = 0) (g : St) (x : Int) (hK : K g) (hx : rg x) : Met l yL_isSo (.code yL_isSo cL_isSo 15 (some .boolean) :: wsL_law) { frames := 11, cells := 1, slots := 6, locals := 340 } (va_Pc [.ref (adr L 0 0 0), .int (iI x), .ref (adr L 14 0 0), .ref (adr L 15 0 0), .ref (adr L 16 0 0), .ref (adr L 17 0 0)] (HS L g)) (va_Qi (fun (r9 : Int32) (u : St) => ∃ z : Int, r9 = iI z ∧ (z = 1 ∧ zz g u)) (fun u t => HS L u t) (Af L)) 1 6 (Af L) := by
  refine ct_mk (by decide +kernel) (Nat.le_of_ble_eq_true rfl) ?_
  intro pp ee ss mm bel mth cx C hr hlk
  show V pp l ee { frames := 11, cells := 1, slots := 6, locals := 340 } ss mm ([.ref (adr L 0 0 0), .int (iI x), .ref (adr L 14 0 0), .ref (adr L 15 0 0), .ref (adr L 16 0 0), .ref (adr L 17 0 0)]).toArray bel mth cx 15 L (HH L g) 0 0 _ 0 [(0, .ref (adr L 0 0 0)), (1, .int (iI x)), (2, .ref (adr L 14 0 0)), (3, .ref (adr L 15 0 0)), (4, .ref (adr L 16 0 0)), (5, .ref (adr L 17 0 0))] []
  refine v_bipush (pc := 0) C rfl dL_isSo_0 ?_
  refine v_newsum (pc := 2) C ⟨by decide, by decide⟩ dL_isSo_2 (fun n hn => ?_)
  refine v_astore (pc := 4) C [(6, .ref (adr (sL L n) 18 0 0)), (0, .ref (adr L 0 0 0)), (1, .int (iI x)), (2, .ref (adr L 14 0 0)), (3, .ref (adr L 15 0 0)), (4, .ref (adr L 16 0 0)), (5, .ref (adr L 17 0 0))] (by decide) rfl dL_isSo_4 ?_
  have k := vs_so0 (L := sL L n) (l := l) (ee := ee) (bel := bel) C hr hlk hn g (z18 g) x (K_z (z18_zz g) hK) (z18_zz g) hx (fun w a b => if_pos rfl)
  refine V_mono (fun t ht => ?_) (fun H locs ls hI hS hl => k H locs ls hI hS (lv_sub hl [1, 2, 3, 4, 5, 6, 0] rfl))
  obtain ⟨o, a1, a2, ⟨⟨r, u, b1, b2, b3⟩, b4⟩, a3⟩ := ht
  exact ⟨o, a1, a2, ⟨⟨r, u, b1, b2, HH_drop h0 b3.1, b3.2⟩, b4⟩, a3⟩
/-! the law reads its script -/
def SX (b Lx : Nat) (xs : Nat → Int32) (U : State) : Prop := va_X b Lx xs U U.heap ∧ b < U.heap.size
set_option maxHeartbeats 4000000 in
theorem ct_L_cell (l : Launch) (L : Lay) (g : St) (b Lx : Nat) (xs : Nat → Int32) (k : Int) (hbA : ¬ Af L b) (hk : 0 ≤ k ∧ k ≤ 1000) (hLx : Lx ≤ 260) : Met l yL_cell (.code yL_cell cL_cell 2 (some .int) :: wsL_law) { frames := 0, cells := 0, slots := 0, locals := 0 } (va_Pc [.ref b, .int (iI k)] (fun U => HS L g U ∧ SX b Lx xs U)) (va_Qi (fun (_ : Int32) (u : St) => u = g) (fun u t => HS L u t) (Af L)) 0 0 (Af L) := by
  refine Met.ofW (cc := cL_cell) (maxL := 2) (ret := some .int) (by decide +kernel) rfl ?_
  intro p e s m args below meth c s₁ B hml hv
  obtain ⟨rfl, ⟨hH, hSm⟩, hX, hb⟩ := hv
  have hts := atoms_spec (ws := .code yL_cell cL_cell 2 (some .int) :: wsL_law) B.pre
  have hown : s.vm.findClass RL = some m.cls := findClass_of_methodNamed B.named
  have hl := lv_entry [Value.ref b, .int (iI k)] (n := 2) (Nat.le_of_ble_eq_true rfl)
  rw [lg_entry_eq]
  have C : Cx p s m ([Value.ref b, .int (iI k)] : List Value).toArray c cL_cell 2 RL L := ⟨B.exec, B.bytes, hml, hown, fun w h => hts w (List.mem_cons_of_mem _ h), hSm⟩
  have hr := B.returns
  have hlk := B.notSynchronized
  have Kk : V p l e { frames := 0, cells := 0, slots := 0, locals := 0 } s m ([Value.ref b, .int (iI k)] : List Value).toArray below meth c 2 L (HH L g) 0 0 (MQ below (va_Qi (fun (_ : Int32) (u : St) => u = g) (fun u t => HS L u t) (Af L)) ([Value.ref b, .int (iI k)] : List Value).toArray s 0 0 (Af L)) 0 [(0, .ref b), (1, .int (iI k))] [] := by
    refine v_iload_n (pc := 0) C 1 rfl rfl dL_cell_0 ?_
    refine v_aload_n (pc := 1) C 0 rfl rfl dL_cell_1 ?_
    refine v_slen (pc := 2) C hX hb hbA dL_cell_2 ?_
    refine v_icmp_ge (pc := 3) C 12 ⟨by omega, by omega⟩ ⟨by omega, by omega⟩ (by decide) dL_cell_3 (fun h3 => ?_) (fun h3 => ?_)
    · refine v_ldc (pc := 12) (z := 40847) C (by decide +kernel) u_4_0 dL_cell_12 ?_
      refine v_iload_n (pc := 14) C 1 rfl rfl dL_cell_14 ?_
      refine v_bipush (pc := 15) C rfl dL_cell_15 ?_
      refine v_iadd (pc := 17) C dL_cell_17 ?_
      refine v_imul (pc := 18) C dL_cell_18 ?_
      refine v_ldc (pc := 19) (z := 2803171) C (by decide +kernel) u_4_1 dL_cell_19 ?_
      refine v_iadd (pc := 21) C dL_cell_21 ?_
      exact v_iret (pc := 22) C hr hlk rfl dL_cell_22
    · refine v_aload_n (pc := 6) C 0 rfl rfl dL_cell_6 ?_
      refine v_iload_n (pc := 7) C 1 rfl rfl dL_cell_7 ?_
      refine v_sld (pc := 8) C hX hb hbA ⟨by omega, by omega⟩ (by omega) dL_cell_8 ?_
      refine v_goto (pc := 9) C 22 (by decide) dL_cell_9 ?_
      exact v_iret (pc := 22) C hr hlk rfl dL_cell_22
  exact Kk s.heap [] _ hH va_S.rf hl
theorem SX.blind {L : Lay} {g : St} {As : List Value} {b Lx : Nat} {xs : Nat → Int32} : FrameBlind (va_Pc As (fun U => HS L g U ∧ SX b Lx xs U)) := fun a U g' mk q => ⟨q.1, ⟨q.2.1.1, q.2.1.2.calling g' mk a⟩, va_X.moved (u := U) (U := U.calling g' mk a) (Vm.Alike.refl U.vm) q.2.2.1, q.2.2.2⟩
theorem v_cell {p : Program} {l : Launch} {e : Env} {R : Room} {s : State} {m : MethodId} {args : Array Value} {below : List Frame} {meth : Method} {c : Code} {cells slots : Nat} {Q : State → Prop} {cc : ByteArray} {nL : Nat} {L : Lay} {g : St} {pc : Nat} {lv : List (Nat × Value)} {st : List Value} {b Lx : Nat} {xs : Nat → Int32} {k : Int}
    (C : Cx p s m args c cc nL RL L) (w : CWs RL 145 yL_cell cL_cell 2 (some .int) 2) (hX : va_X b Lx xs s s.heap) (hb : b < s.heap.size) (hbA : ¬ Af L b) (hk : 0 ≤ k ∧ k ≤ 1000) (hLx : Lx ≤ 260) (hR : 0 + 1 ≤ R.frames ∧ 8 + (2 + 11) + 0 ≤ R.locals) (hst : (st.map fun v => v.category).sum ≤ 8) (hcs : cells + 0 ≤ R.cells ∧ slots + 0 ≤ R.slots) (hdg : decode cc pc = .ok (.invokestatic 145, 3))
    (kk : ∀ z : Int, rg z → V p l e R s m args below meth c nL L (HH L g) cells slots Q (pc + 3) lv (.int (iI z) :: st)) : V p l e R s m args below meth c nL L (HH L g) cells slots Q pc lv (.int (iI k) :: .ref b :: st) := by
  intro H locs ls hI hS hl
  refine va_calli (va_runS (As := [.ref b, .int (iI k)]) (rest := st) (Ts := wsL_law) ⟨C.1, C.2.1, C.2.2.1, C.2.2.2.1, C.2.2.2.2.1⟩ (ct_L_cell l L g b Lx xs k hbA hk hLx) (w.W C rfl rfl hR) ⟨SX.blind, fun U hU hW => ⟨rfl, ⟨by show HH L g U.heap; rw [hU]; exact hI, C.2.2.2.2.2.go hW hU hS⟩, (va_X.moved hW.alike (hX.kept (hS.2.1 b hb hbA))) |> fun h => by rw [hU]; exact h, by rw [hU]; exact Nat.lt_of_lt_of_le hb hS.1⟩⟩ rfl rfl hl.1 rfl (lv_room hst) hdg hcs) hS (fun _ _ h => h) (fun _ h => h) (fun r u t H1 locs1 ht hA hp hB _ _ hS1 => ?_)
  subst hp
  have k2 := kk r.toInt (iI_rg r) H1 locs1 ls (by rw [← ht]; exact hB.1) hS1 hl
  rw [iI_of] at k2
  exact k2
theorem cw_RL_cell : CWs RL 145 yL_cell cL_cell 2 (some .int) 2 := ⟨u_3_20, u_3_21, u_3_22, u_3_23, by decide +kernel⟩
