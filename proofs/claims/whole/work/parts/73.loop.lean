/-! the law's loop -/
theorem lw_loop {p : Program} {l : Launch} {e : Env} {s : State} {m : MethodId} {args : Array Value} {below : List Frame} {meth : Method} {c : Code} {L : Lay} {b Lx : Nat} {xs : Nat → Int32} {Q : State → Prop} (hfl : l.flags = flags0) (C : Cx p s m args c cL_law 9 RL L) (hX : va_X b Lx xs s s.heap) (hb : b < s.heap.size) (hbA : ¬ Af L b) (hLx : Lx ≤ 2048) (kret : ∀ (v : St) (i : Int) (cs ss : Nat), cs ≤ 622385 → ss ≤ 7228948 → V p l e room_1 s m args below meth c 9 L (HH L v) cs ss Q 1381 [(0, .ref b), (1, .ref (adr L 0 0 0)), (2, .ref (adr L 14 0 0)), (3, .ref (adr L 20 0 0)), (4, .int (iI i))] []) : ∀ (k t : Nat) (g : St), t + k = 513 → INV g (60 * (t : Int)) → V p l e room_1 s m args below meth c 9 L (HH L g) (312 + 3 * t) (3212 + 18 * t) Q 23 [(0, .ref b), (1, .ref (adr L 0 0 0)), (2, .ref (adr L 14 0 0)), (3, .ref (adr L 20 0 0)), (4, .int (iI (4 * (t : Int))))] [] := by
  intro k
  induction k with
  | zero =>
    intro t g ht hI
    refine v_iload (pc := 23) C 4 rfl dL_law_23 ?_
    refine v_aload_n (pc := 25) C 0 rfl rfl dL_law_25 ?_
    refine v_slen (pc := 26) C hX hb hbA dL_law_26 ?_
    refine v_iconst (pc := 27) C dL_law_27 ?_
    refine v_isub (pc := 28) C dL_law_28 ?_
    refine v_icmp_gt (pc := 29) C 1381 ⟨by omega, by omega⟩ ⟨by omega, by omega⟩ (by decide) dL_law_29 (fun h => ?_) (fun h => ?_)
    · exact kret g _ _ _ (by omega) (by omega)
    · exact absurd h (by omega)
  | succ k ih =>
    intro t g ht hI
    refine v_iload (pc := 23) C 4 rfl dL_law_23 ?_
    refine v_aload_n (pc := 25) C 0 rfl rfl dL_law_25 ?_
    refine v_slen (pc := 26) C hX hb hbA dL_law_26 ?_
    refine v_iconst (pc := 27) C dL_law_27 ?_
    refine v_isub (pc := 28) C dL_law_28 ?_
    refine v_icmp_gt (pc := 29) C 1381 ⟨by omega, by omega⟩ ⟨by omega, by omega⟩ (by decide) dL_law_29 (fun h => ?_) (fun h => ?_)
    · exact kret g _ _ _ (by omega) (by omega)
    · have kend : ∀ v : St, INV v (60 * (t : Int) + 60) → V p l e room_1 s m args below meth c 9 L (HH L v) (312 + 3 * t + 3) (3212 + 18 * t + 18) Q 1375 [(0, .ref b), (1, .ref (adr L 0 0 0)), (2, .ref (adr L 14 0 0)), (3, .ref (adr L 20 0 0)), (4, .int (iI (4 * (t : Int))))] [] := by
        intro v hv
        refine v_iinc (pc := 1375) C 4 [(4, .int (iI (4 * (t : Int) + 4))), (0, .ref b), (1, .ref (adr L 0 0 0)), (2, .ref (adr L 14 0 0)), (3, .ref (adr L 20 0 0))] rfl (by decide) rfl dL_law_1375 ?_
        refine v_goto (pc := 1378) C 23 (by decide) dL_law_1378 ?_
        have k1 := ih (t + 1) v (by omega) (by rw [show 60 * (((t + 1 : Nat)) : Int) = 60 * (t : Int) + 60 by omega]; exact hv)
        rw [show 4 * (((t + 1 : Nat)) : Int) = 4 * (t : Int) + 4 by omega] at k1
        exact fun H locs ls hH hS hl => W.widen (by omega) (by omega) (k1 H locs ls hH hS (lv_sub hl [1, 2, 3, 4, 0] rfl))
      have hi : 0 ≤ 4 * (t : Int) ∧ 4 * (t : Int) + 3 < Lx := ⟨by omega, by omega⟩
      have hn : 60 * (t : Int) ≤ 40000 := by omega
      have hc : 312 + 3 * t + 3 ≤ 622385 := by omega
      have hs : 3212 + 18 * t + 18 ≤ 7228948 := by omega
      refine v_aload_n (pc := 32) C 0 rfl rfl dL_law_32 ?_
      refine v_iload (pc := 33) C 4 rfl dL_law_33 ?_
      refine v_sld (pc := 35) C hX hb hbA ⟨by omega, by omega⟩ (by omega) dL_law_35 ?_
      refine v_bipush (pc := 36) C rfl dL_law_36 ?_
      refine v_iand (pc := 38) C dL_law_38 ?_
      obtain ⟨z, hz, ez⟩ := and31 (iI (sx xs (4 * (t : Int))))
      rw [ez]
      clear ez
      by_cases hz2 : 23 < z
      · exact v_tableOut (pc := 39) C 1375 ⟨by omega, by omega⟩ (Or.inr hz2) (by decide) dL_law_39 (v_widen (by omega) (by omega) (kend g (INV_up hI)))
      rcases (by omega : z = 0 ∨ z = 1 ∨ z = 2 ∨ z = 3 ∨ z = 4 ∨ z = 5 ∨ z = 6 ∨ z = 7 ∨ z = 8 ∨ z = 9 ∨ z = 10 ∨ z = 11 ∨ z = 12 ∨ z = 13 ∨ z = 14 ∨ z = 15 ∨ z = 16 ∨ z = 17 ∨ z = 18 ∨ z = 19 ∨ z = 20 ∨ z = 21 ∨ z = 22 ∨ z = 23) with rfl | rfl | rfl | rfl | rfl | rfl | rfl | rfl | rfl | rfl | rfl | rfl | rfl | rfl | rfl | rfl | rfl | rfl | rfl | rfl | rfl | rfl | rfl | rfl
      · exact v_tableIn (pc := 39) C 148 (by decide) (by decide) (by decide) (o := 109) rfl (by decide) dL_law_39 (lc_call hfl C hX hb hbA hi hLx hI hn hc hs kend)
      · exact v_tableIn (pc := 39) C 216 (by decide) (by decide) (by decide) (o := 177) rfl (by decide) dL_law_39 (lc_walk hfl C hX hb hbA hi hLx hI hn hc hs kend)
      · exact v_tableIn (pc := 39) C 284 (by decide) (by decide) (by decide) (o := 245) rfl (by decide) dL_law_39 (lc_throwBall hfl C hX hb hbA hi hLx hI hn hc hs kend)
      · exact v_tableIn (pc := 39) C 380 (by decide) (by decide) (by decide) (o := 341) rfl (by decide) dL_law_39 (lc_set hfl C hX hb hbA hi hLx hI hn hc hs kend)
      · exact v_tableIn (pc := 39) C 448 (by decide) (by decide) (by decide) (o := 409) rfl (by decide) dL_law_39 (lc_pass hfl C hX hb hbA hi hLx hI hn hc hs kend)
      · exact v_tableIn (pc := 39) C 504 (by decide) (by decide) (by decide) (o := 465) rfl (by decide) dL_law_39 (lc_append hfl C hX hb hbA hi hLx hI hn hc hs kend)
      · exact v_tableIn (pc := 39) C 560 (by decide) (by decide) (by decide) (o := 521) rfl (by decide) dL_law_39 (lc_clearBuffer hfl C hX hb hbA hi hLx hI hn hc hs kend)
      · exact v_tableIn (pc := 39) C 573 (by decide) (by decide) (by decide) (o := 534) rfl (by decide) dL_law_39 (lc_firstError hfl C hX hb hbA hi hLx hI hn hc hs kend)
      · exact v_tableIn (pc := 39) C 586 (by decide) (by decide) (by decide) (o := 547) rfl (by decide) dL_law_39 (lc_run hfl C hX hb hbA hi hLx hI hn hc hs kend)
      · exact v_tableIn (pc := 39) C 630 (by decide) (by decide) (by decide) (o := 591) rfl (by decide) dL_law_39 (lc_keep hfl C hX hb hbA hi hLx hI hn hc hs kend)
      · exact v_tableIn (pc := 39) C 686 (by decide) (by decide) (by decide) (o := 647) rfl (by decide) dL_law_39 (lc_goBack hfl C hX hb hbA hi hLx hI hn hc hs kend)
      · exact v_tableIn (pc := 39) C 742 (by decide) (by decide) (by decide) (o := 703) rfl (by decide) dL_law_39 (lc_undo hfl C hX hb hbA hi hLx hI hn hc hs kend)
      · exact v_tableIn (pc := 39) C 786 (by decide) (by decide) (by decide) (o := 747) rfl (by decide) dL_law_39 (lc_playerOf hfl C hX hb hbA hi hLx hI hn hc hs kend)
      · exact v_tableIn (pc := 39) C 854 (by decide) (by decide) (by decide) (o := 815) rfl (by decide) dL_law_39 (lc_echoOf hfl C hX hb hbA hi hLx hI hn hc hs kend)
      · exact v_tableIn (pc := 39) C 922 (by decide) (by decide) (by decide) (o := 883) rfl (by decide) dL_law_39 (lc_count hfl C hX hb hbA hi hLx hI hn hc hs kend)
      · exact v_tableIn (pc := 39) C 978 (by decide) (by decide) (by decide) (o := 939) rfl (by decide) dL_law_39 (lc_setting hfl C hX hb hbA hi hLx hI hn hc hs kend)
      · exact v_tableIn (pc := 39) C 1034 (by decide) (by decide) (by decide) (o := 995) rfl (by decide) dL_law_39 (lc_ballIn hfl C hX hb hbA hi hLx hI hn hc hs kend)
      · exact v_tableIn (pc := 39) C 1102 (by decide) (by decide) (by decide) (o := 1063) rfl (by decide) dL_law_39 (lc_echoIn hfl C hX hb hbA hi hLx hI hn hc hs kend)
      · exact v_tableIn (pc := 39) C 1170 (by decide) (by decide) (by decide) (o := 1131) rfl (by decide) dL_law_39 (lc_wouldClash hfl C hX hb hbA hi hLx hI hn hc hs kend)
      · exact v_tableIn (pc := 39) C 1238 (by decide) (by decide) (by decide) (o := 1199) rfl (by decide) dL_law_39 (lc_callIn hfl C hX hb hbA hi hLx hI hn hc hs kend)
      · exact v_tableIn (pc := 39) C 1294 (by decide) (by decide) (by decide) (o := 1255) rfl (by decide) dL_law_39 (lc_quietIn hfl C hX hb hbA hi hLx hI hn hc hs kend)
      · exact v_tableIn (pc := 39) C 1307 (by decide) (by decide) (by decide) (o := 1268) rfl (by decide) dL_law_39 (lc_best hfl C hX hb hbA hi hLx hI hn hc hs kend)
      · exact v_tableIn (pc := 39) C 1320 (by decide) (by decide) (by decide) (o := 1281) rfl (by decide) dL_law_39 (lc_answeredShare hfl C hX hb hbA hi hLx hI hn hc hs kend)
      · exact v_tableIn (pc := 39) C 1361 (by decide) (by decide) (by decide) (o := 1322) rfl (by decide) dL_law_39 (lc_digest hfl C hX hb hbA hi hLx hI hn hc hs kend)
