/-! the law's loop, to its end -/
theorem lw_loop {p : Program} {l : Launch} {e : Env} {s : State} {m : MethodId} {args : Array Value} {below : List Frame} {meth : Method} {c : Code} {L : Lay} {Q : State → Prop} {b Lx : Nat} {xs : Nat → Int32} (hfl : l.flags = flags0) (C : Cx p s m args c cL_law 16 RL L) (h0 : su L = 0) (hX : va_X b Lx xs s s.heap) (hb : b < s.heap.size) (hbA : ¬ Af L b) (hLx : Lx ≤ 260)
    (kret : ∀ (v : St) (cs ss : Nat) (i : Int), cs ≤ 714495 → ss ≤ 6957984 → V p l e room_1 s m args below meth c 16 L (HH L v) cs ss Q 577 [(0, .ref b), (1, .ref (adr L 0 0 0)), (2, .ref (adr L 14 0 0)), (3, .ref (adr L 15 0 0)), (4, .ref (adr L 16 0 0)), (5, .ref (adr L 17 0 0)), (6, .int (iI i))] []) :
    ∀ (k T : Nat) (g : St) (cs ss : Nat), T + k = 40 → J g (200 * (T : Int)) T → cs + 3 * k ≤ 714495 → ss + 18 * k ≤ 6957984 → V p l e room_1 s m args below meth c 16 L (HH L g) cs ss Q 83 [(0, .ref b), (1, .ref (adr L 0 0 0)), (2, .ref (adr L 14 0 0)), (3, .ref (adr L 15 0 0)), (4, .ref (adr L 16 0 0)), (5, .ref (adr L 17 0 0)), (6, .int (iI (T : Int)))] [] := by
  intro k
  induction k with
  | zero =>
    intro T g cs ss ht hJ hc hs
    refine v_iload (pc := 83) C 6 rfl dL_law_83 ?_
    refine v_bipush (pc := 85) C rfl dL_law_85 ?_
    refine v_icmp_ge (pc := 87) C 577 ⟨by omega, by omega⟩ ⟨by omega, by omega⟩ (by decide) dL_law_87 (fun h => ?_) (fun h => ?_)
    · exact kret g cs ss T (by omega) (by omega)
    · exact absurd h (by omega)
  | succ k ih =>
    intro T g cs ss ht hJ hc hs
    refine v_iload (pc := 83) C 6 rfl dL_law_83 ?_
    refine v_bipush (pc := 85) C rfl dL_law_85 ?_
    refine v_icmp_ge (pc := 87) C 577 ⟨by omega, by omega⟩ ⟨by omega, by omega⟩ (by decide) dL_law_87 (fun h => ?_) (fun h => ?_)
    · exact absurd h (by omega)
    · have kend : ∀ v : St, J v (200 * ((T : Int) + 1)) ((T : Int) + 1) → V p l e room_1 s m args below meth c 16 L (HH L v) (cs + 3) (ss + 18) Q 571 [(0, .ref b), (1, .ref (adr L 0 0 0)), (2, .ref (adr L 14 0 0)), (3, .ref (adr L 15 0 0)), (4, .ref (adr L 16 0 0)), (5, .ref (adr L 17 0 0)), (6, .int (iI (T : Int)))] [] := by
        intro v hv
        refine v_iinc (pc := 571) C 6 [(6, .int (iI ((T : Int) + 1))), (0, .ref b), (1, .ref (adr L 0 0 0)), (2, .ref (adr L 14 0 0)), (3, .ref (adr L 15 0 0)), (4, .ref (adr L 16 0 0)), (5, .ref (adr L 17 0 0))] rfl (by decide) rfl dL_law_571 ?_
        refine v_goto (pc := 574) C 83 (by decide) dL_law_574 ?_
        have k1 := ih (T + 1) v (cs + 3) (ss + 18) (by omega) (by rw [show (((T + 1 : Nat)) : Int) = (T : Int) + 1 by omega]; exact hv) (by omega) (by omega)
        rw [show (((T + 1 : Nat)) : Int) = (T : Int) + 1 by omega] at k1
        exact fun H locs ls hH hS hl => k1 H locs ls hH hS (lv_sub hl [1, 2, 3, 4, 5, 6, 0] rfl)
      refine v_aload_n (pc := 90) C 0 rfl rfl dL_law_90 ?_
      refine v_iconst (pc := 91) C dL_law_91 ?_
      refine v_iload (pc := 92) C 6 rfl dL_law_92 ?_
      refine v_imul (pc := 94) C dL_law_94 ?_
      refine v_cell (pc := 95) C cw_RL_cell hX hb hbA ⟨by omega, by omega⟩ hLx ⟨Nat.le_of_ble_eq_true rfl, Nat.le_of_ble_eq_true rfl⟩ (Nat.le_of_ble_eq_true rfl) ⟨by show _ ≤ 714495; omega, by show _ ≤ 6957984; omega⟩ dL_law_95 (fun x hx => ?_)
      refine v_istore (pc := 98) C [(7, .int (iI x)), (0, .ref b), (1, .ref (adr L 0 0 0)), (2, .ref (adr L 14 0 0)), (3, .ref (adr L 15 0 0)), (4, .ref (adr L 16 0 0)), (5, .ref (adr L 17 0 0)), (6, .int (iI (T : Int)))] (by decide) rfl dL_law_98 ?_
      refine v_aload_n (pc := 100) C 1 rfl rfl dL_law_100 ?_
      refine v_iconst (pc := 101) C dL_law_101 ?_
      refine v_iload (pc := 102) C 7 rfl dL_law_102 ?_
      refine v_imul (pc := 104) C dL_law_104 ?_
      refine v_iconst (pc := 105) C dL_law_105 ?_
      refine v_iadd (pc := 106) C dL_law_106 ?_
      refine v_cell (pc := 107) C cw_RL_cell hX hb hbA ⟨by omega, by omega⟩ hLx ⟨Nat.le_of_ble_eq_true rfl, Nat.le_of_ble_eq_true rfl⟩ (Nat.le_of_ble_eq_true rfl) ⟨by show _ ≤ 714495; omega, by show _ ≤ 6957984; omega⟩ dL_law_107 (fun y hy => ?_)
      refine v_istore (pc := 110) C [(8, .int (iI y)), (7, .int (iI x)), (0, .ref b), (1, .ref (adr L 0 0 0)), (2, .ref (adr L 14 0 0)), (3, .ref (adr L 15 0 0)), (4, .ref (adr L 16 0 0)), (5, .ref (adr L 17 0 0)), (6, .int (iI (T : Int)))] (by decide) rfl dL_law_110 ?_
      refine v_lsub [2, 3, 4, 5, 6, 7, 8, 1, 0] rfl ?_
      exact vs_lA (cE := cs + 3) (sE := ss + 18) hfl C h0 (by omega) (by omega) g b T x y ⟨by omega, by omega⟩ hx hy hJ ⟨by omega, by omega⟩ kend
