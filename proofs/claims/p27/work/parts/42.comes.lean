/-! what comes back at a clock, as a fold over the law's echoes -/
theorem lls_get (g : St) (i : Nat) : (lls g)[i]? = if i < (g 14 0 0 9).toNat then some (lev g i) else none := by
  unfold lls
  rw [List.getElem?_map]
  split
  · rename_i h; rw [List.getElem?_range h]; rfl
  · rename_i h; rw [List.getElem?_eq_none (by simp; omega)]; rfl
theorem lls_len (g : St) : (lls g).length = (g 14 0 0 9).toNat := by simp [lls]
theorem lls_take {g : St} {i : Int} (h0 : 0 ≤ i) (h1 : i < g 14 0 0 9) : (lls g).take (i + 1).toNat = (lls g).take i.toNat ++ [lev g i] := by
  rw [show (i + 1).toNat = i.toNat + 1 by omega, List.take_add_one, lls_get, if_pos (by omega), show ((i.toNat : Nat) : Int) = i by omega]
  rfl
def asX (h : St) (s r c : Int) : AS := (rs (fun p x => h 15 0 0 (6 * p + x)), s, (r + 1) / 2, c)
abbrev fL (g : St) : AS → E5 → AS := fx (clL (lls g)) (fun p => g 15 0 0 (6 * p)) (g 14 0 0 4)
def fdL (g : St) (n : Nat) : AS := (((lls g).take n).filter (duQ (g 14 0 0 3))).foldl (fL g) (asX g (g 14 0 0 5) (g 14 0 0 6) 0)
theorem fdL_s {g : St} {i : Int} (h0 : 0 ≤ i) (h1 : i < g 14 0 0 9) : fdL g (i + 1).toNat = if g 16 0 0 i / 2 = g 14 0 0 3 then fL g (fdL g i.toNat) (lev g i) else fdL g i.toNat := by
  unfold fdL
  rw [lls_take h0 h1, List.filter_append, List.foldl_append]
  by_cases h : g 16 0 0 i / 2 = g 14 0 0 3
  · rw [if_pos h, List.filter_cons_of_pos (show duQ (g 14 0 0 3) (lev g i) = true from decide_eq_true h)]
    rfl
  · rw [if_neg h, List.filter_cons_of_neg (show ¬ duQ (g 14 0 0 3) (lev g i) = true from fun hx => h (of_decide_eq_true hx))]
    rfl
theorem lcl {g : St} {i : Int} : clL (lls g) (lev g i) = true ↔ 1 < lCo g (g 17 0 0 i / 100) (g 16 0 0 i / 2) := by
  have e : lCo g (g 17 0 0 i / 100) (g 16 0 0 i / 2) = (((lls g).countP (smE (lev g i)) : Nat) : Int) := cn_count (lDu g (g 17 0 0 i / 100) (g 16 0 0 i / 2)) (fun i : Nat => lev g i) (smE (lev g i)) (fun i => rfl) _
  rw [e]
  unfold clL
  rw [decide_eq_true_eq]
  omega
theorem up15 {h : St} {a q : Int} (ha : 0 ≤ a ∧ a < 4) (hq : 0 ≤ q ∧ q < 6) : rs (fun p x => up h 15 0 0 (6 * a + q) (h 15 0 0 (6 * a + q) + 1) 15 0 0 (6 * p + x)) = bm (rs (fun p x => h 15 0 0 (6 * p + x))) a q := by
  rw [← rs_bm ha hq]
  funext x y
  simp only [rs, bm]
  by_cases hx : 0 ≤ x ∧ x < 4 ∧ 0 ≤ y ∧ y < 6
  · rw [if_pos hx, if_pos hx]
    by_cases he : x = a ∧ y = q
    · obtain ⟨rfl, rfl⟩ := he
      rw [if_pos ⟨rfl, rfl⟩, up_s]
    · rw [if_neg he, up_i (by omega)]
  · rw [if_neg hx, if_neg hx]
section CM
variable {g h : St} {s r c i : Int}
theorem cm_no (h0 : 0 ≤ i) (h1 : i < g 14 0 0 9) (hf : asX h s r c = fdL g i.toNat) (hd : ¬ g 16 0 0 i / 2 = g 14 0 0 3) : asX h s r c = fdL g (i + 1).toNat := by
  rw [fdL_s h0 h1, if_neg hd]; exact hf
theorem cm_4 (h0 : 0 ≤ i) (h1 : i < g 14 0 0 9) (ha : 0 ≤ g 17 0 0 i / 10 % 10 ∧ g 17 0 0 i / 10 % 10 < 4) (hf : asX h s r c = fdL g i.toNat) (hd : g 16 0 0 i / 2 = g 14 0 0 3) (hc : 1 < lCo g (g 17 0 0 i / 100) (g 14 0 0 3)) : asX (up h 15 0 0 (6 * (g 17 0 0 i / 10 % 10) + 4) (h 15 0 0 (6 * (g 17 0 0 i / 10 % 10) + 4) + 1)) s r c = fdL g (i + 1).toNat := by
  rw [fdL_s h0 h1, if_pos hd, ← hf]
  unfold fL fx
  rw [if_pos (lcl.mpr (by rw [hd]; exact hc))]
  unfold asX
  rw [up15 ha (by decide)]
  rfl
theorem cm_5 (h0 : 0 ≤ i) (h1 : i < g 14 0 0 9) (ha : 0 ≤ g 17 0 0 i / 10 % 10 ∧ g 17 0 0 i / 10 % 10 < 4) (hf : asX h s r c = fdL g i.toNat) (hd : g 16 0 0 i / 2 = g 14 0 0 3) (hc : lCo g (g 17 0 0 i / 100) (g 14 0 0 3) ≤ 1) (hp : ¬ g 15 0 0 (6 * (g 17 0 0 i / 10 % 10)) = g 17 0 0 i / 100) : asX (up h 15 0 0 (6 * (g 17 0 0 i / 10 % 10) + 5) (h 15 0 0 (6 * (g 17 0 0 i / 10 % 10) + 5) + 1)) s r c = fdL g (i + 1).toNat := by
  rw [fdL_s h0 h1, if_pos hd, ← hf]
  unfold fL fx
  rw [if_neg (fun hx => by have := lcl.mp hx; rw [hd] at this; omega), if_pos (show (g 15 0 0 (6 * (lev g i).1) ≠ (lev g i).2.1) from hp)]
  unfold asX
  rw [up15 ha (by decide)]
  rfl
theorem cm_3 (h0 : 0 ≤ i) (h1 : i < g 14 0 0 9) (ha : 0 ≤ g 17 0 0 i / 10 % 10 ∧ g 17 0 0 i / 10 % 10 < 4) (hf : asX h s r c = fdL g i.toNat) (hd : g 16 0 0 i / 2 = g 14 0 0 3) (hc : lCo g (g 17 0 0 i / 100) (g 14 0 0 3) ≤ 1) (hp : g 15 0 0 (6 * (g 17 0 0 i / 10 % 10)) = g 17 0 0 i / 100) (hb : ¬ g 14 0 0 4 = g 17 0 0 i / 100) : asX (up h 15 0 0 (6 * (g 17 0 0 i / 10 % 10) + 3) (h 15 0 0 (6 * (g 17 0 0 i / 10 % 10) + 3) + 1)) s r c = fdL g (i + 1).toNat := by
  rw [fdL_s h0 h1, if_pos hd, ← hf]
  unfold fL fx
  rw [if_neg (fun hx => by have := lcl.mp hx; rw [hd] at this; omega), if_neg (fun hx : g 15 0 0 (6 * (lev g i).1) ≠ (lev g i).2.1 => hx hp), if_pos (show g 14 0 0 4 ≠ (lev g i).2.1 from hb)]
  unfold asX
  rw [up15 ha (by decide)]
  rfl
theorem cm_c {s2 r2 : Int} (h0 : 0 ≤ i) (h1 : i < g 14 0 0 9) (ha : 0 ≤ g 17 0 0 i / 10 % 10 ∧ g 17 0 0 i / 10 % 10 < 4) (hf : asX h s r c = fdL g i.toNat) (hd : g 16 0 0 i / 2 = g 14 0 0 3) (hc : lCo g (g 17 0 0 i / 100) (g 14 0 0 3) ≤ 1) (hp : g 15 0 0 (6 * (g 17 0 0 i / 10 % 10)) = g 17 0 0 i / 100) (hb : g 14 0 0 4 = g 17 0 0 i / 100) (hs : s2 = fwS s (g 17 0 0 i % 10)) (hr : (r2 + 1) / 2 = fwR ((r + 1) / 2) (g 17 0 0 i % 10)) : asX (up (up h 15 0 0 (6 * (g 17 0 0 i / 10 % 10) + 3) (h 15 0 0 (6 * (g 17 0 0 i / 10 % 10) + 3) + 1)) 15 0 0 (6 * (g 17 0 0 i / 10 % 10) + 1) (up h 15 0 0 (6 * (g 17 0 0 i / 10 % 10) + 3) (h 15 0 0 (6 * (g 17 0 0 i / 10 % 10) + 3) + 1) 15 0 0 (6 * (g 17 0 0 i / 10 % 10) + 1) + 1)) s2 r2 (c + 1) = fdL g (i + 1).toNat := by
  rw [fdL_s h0 h1, if_pos hd, ← hf]
  unfold fL fx
  rw [if_neg (fun hx => by have := lcl.mp hx; rw [hd] at this; omega), if_neg (fun hx : g 15 0 0 (6 * (lev g i).1) ≠ (lev g i).2.1 => hx hp), if_neg (fun hx : g 14 0 0 4 ≠ (lev g i).2.1 => hx hb)]
  unfold asX
  rw [up15 ha (by decide), up15 ha (by decide), hs, hr]
  rfl
theorem cm_u {j : Int} (h0 : 0 ≤ i) (h1 : i < g 14 0 0 9) (hd : g 16 0 0 i / 2 = g 14 0 0 3) (hb : g 14 0 0 4 = g 17 0 0 i / 100) (hc : lCo g (g 17 0 0 i / 100) (g 14 0 0 3) ≤ 1) (j0 : 0 ≤ j) (j1 : j < i) (jd : g 16 0 0 j / 2 = g 14 0 0 3) (jb : g 17 0 0 j / 100 = g 14 0 0 4) : False := by
  have e1 := cn_pos (P := lDu g (g 17 0 0 i / 100) (g 14 0 0 3)) j0 j1 (decide_eq_true ⟨by omega, jd⟩)
  have e2 := cn_s (P := lDu g (g 17 0 0 i / 100) (g 14 0 0 3)) h0
  rw [if_pos (show lDu g (g 17 0 0 i / 100) (g 14 0 0 3) i = true from decide_eq_true ⟨rfl, hd⟩)] at e2
  have e3 := cn_mono (lDu g (g 17 0 0 i / 100) (g 14 0 0 3)) (a := (i + 1).toNat) (b := (g 14 0 0 9).toNat) (by omega)
  have e4 : lCo g (g 17 0 0 i / 100) (g 14 0 0 3) = cn (lDu g (g 17 0 0 i / 100) (g 14 0 0 3)) (g 14 0 0 9).toNat := rfl
  omega
end CM
/-- what is kept -/
def kpL (g : St) (n : Nat) : List E5 := ((lls g).take n).filter (fun x => decide (x.2.2.2.1 ≠ g 14 0 0 3))
theorem kpL_s {g : St} {i : Int} (h0 : 0 ≤ i) (h1 : i < g 14 0 0 9) : kpL g (i + 1).toNat = kpL g i.toNat ++ (if g 16 0 0 i / 2 = g 14 0 0 3 then [] else [lev g i]) := by
  unfold kpL
  rw [lls_take h0 h1, List.filter_append]
  by_cases h : g 16 0 0 i / 2 = g 14 0 0 3
  · rw [if_pos h, List.filter_cons_of_neg (by rw [decide_eq_true_eq]; exact fun hx => hx h)]; rfl
  · rw [if_neg h, List.filter_cons_of_pos (by rw [decide_eq_true_eq]; exact h)]; rfl
theorem kp_no {g : St} {i : Int} {L : List E5} (h0 : 0 ≤ i) (h1 : i < g 14 0 0 9) (hd : g 16 0 0 i / 2 = g 14 0 0 3) (hk : L = kpL g i.toNat) : L = kpL g (i + 1).toNat := by
  rw [kpL_s h0 h1, if_pos hd, List.append_nil]; exact hk
theorem kp_ye {g v : St} {i y : Int} (h0 : 0 ≤ i) (h1 : i < g 14 0 0 9) (y0 : 0 ≤ y) (hd : ¬ g 16 0 0 i / 2 = g 14 0 0 3) (hk : (List.range y.toNat).map (fun i : Nat => lev v i) = kpL g i.toNat) : (List.range (y + 1).toNat).map (fun j : Nat => lev (up (up v 16 0 0 y (g 16 0 0 i)) 17 0 0 y (g 17 0 0 i)) j) = kpL g (i + 1).toNat := by
  rw [kpL_s h0 h1, if_neg hd, show (y + 1).toNat = y.toNat + 1 by omega, List.range_succ, List.map_append, ← hk]
  congr 1
  · refine List.map_congr_left (fun j hj => ?_)
    have := List.mem_range.mp hj
    unfold lev
    rw [up_i (by omega), up_f (by decide), up_f (by decide), up_i (by omega)]
  · have e : lev (up (up v 16 0 0 y (g 16 0 0 i)) 17 0 0 y (g 17 0 0 i)) y = lev g i := by
      unfold lev
      rw [up_s, up_f (by decide), up_s]
    simp only [List.map_cons, List.map_nil, show ((y.toNat : Nat) : Int) = y by omega, e]
def lcm (g u : St) (z : Int) : Prop := asX u (u 14 0 0 5) (u 14 0 0 6) z = fdL g (g 14 0 0 9).toNat ∧ lls u = (lls g).filter (fun x => decide (x.2.2.2.1 ≠ g 14 0 0 3)) ∧ (∀ x, x ≠ 5 → x ≠ 6 → x ≠ 9 → u 14 0 0 x = g 14 0 0 x) ∧ (u 14 0 0 6 = 1 ∨ u 14 0 0 6 = -1) ∧ (∀ f : Nat, (f < 14 ∨ 17 < f) → u f = g f) ∧ (∀ j, 0 ≤ j → j < 24 → g 15 0 0 j ≤ u 15 0 0 j ∧ u 15 0 0 j ≤ g 15 0 0 j + 24) ∧ (0 ≤ u 14 0 0 9 ∧ u 14 0 0 9 ≤ g 14 0 0 9) ∧ (0 ≤ z ∧ z ≤ 24) ∧ (1 ≤ u 14 0 0 5 ∧ u 14 0 0 5 ≤ 9)
theorem lcm_end {g h v : St} {s r c y : Int} (hg : 0 ≤ g 14 0 0 9 ∧ g 14 0 0 9 ≤ 24) (hf : asX h s r c = fdL g (g 14 0 0 9).toNat) (hr : r = 1 ∨ r = -1) (hs : 1 ≤ s ∧ s ≤ 9) (hc : 0 ≤ c ∧ c ≤ 24) (hct : ∀ j, 0 ≤ j → j < 24 → g 15 0 0 j ≤ h 15 0 0 j ∧ h 15 0 0 j ≤ g 15 0 0 j + 24) (hh : ∀ f : Nat, f ≠ 15 → h f = g f) (hv : ∀ f : Nat, f ≠ 16 → f ≠ 17 → v f = h f) (hy : 0 ≤ y ∧ y ≤ g 14 0 0 9) (hk : (List.range y.toNat).map (fun i : Nat => lev v i) = kpL g (g 14 0 0 9).toNat) : lcm g (up (up (up v 14 0 0 9 y) 14 0 0 5 s) 14 0 0 6 r) c := by
  have u14 : ∀ x, x ≠ 5 → x ≠ 6 → x ≠ 9 → up (up (up v 14 0 0 9 y) 14 0 0 5 s) 14 0 0 6 r 14 0 0 x = g 14 0 0 x := fun x a b d => by
    rw [up_i b, up_i a, up_i d, hv 14 (by decide) (by decide), hh 14 (by decide)]
  have u15 : up (up (up v 14 0 0 9 y) 14 0 0 5 s) 14 0 0 6 r 15 = h 15 := by rw [up_ff (by decide), up_ff (by decide), up_ff (by decide), hv 15 (by decide) (by decide)]
  have u9 : up (up (up v 14 0 0 9 y) 14 0 0 5 s) 14 0 0 6 r 14 0 0 9 = y := by rw [up_i (by decide), up_i (by decide), up_s]
  refine ⟨?_, ?_, u14, by rw [up_s]; exact hr, fun f hf => ?_, fun j a b => by rw [u15]; exact hct j a b, by rw [u9]; exact hy, hc, by rw [up_i (by decide), up_s]; exact hs⟩
  · rw [← hf]
    unfold asX
    rw [u15, up_s, up_i (by decide), up_s]
  · have e : (lls g).take (g 14 0 0 9).toNat = lls g := List.take_of_length_le (by rw [lls_len]; omega)
    unfold kpL at hk
    rw [e] at hk
    rw [← hk]
    unfold lls
    rw [u9]
    refine List.map_congr_left (fun j _ => ?_)
    unfold lev
    rw [up_ff (show (17 : Nat) ≠ 14 by decide), up_ff (show (17 : Nat) ≠ 14 by decide), up_ff (show (17 : Nat) ≠ 14 by decide), up_ff (show (16 : Nat) ≠ 14 by decide), up_ff (show (16 : Nat) ≠ 14 by decide), up_ff (show (16 : Nat) ≠ 14 by decide)]
  · rw [up_ff (by omega), up_ff (by omega), up_ff (by omega), hv f (by omega) (by omega), hh f (by omega)]
/-! the law's turns -/
def ltA (g : St) : St := lmG (up g 14 0 0 3 (g 14 0 0 3 + 1)) (g 14 0 0 5).toNat
def lts : Nat → St → St → Int → Prop
  | 0, g, u, z => u = g ∧ z = 0
  | n + 1, g, u, z => ∃ v y x, lts n g v y ∧ lcm (ltA v) u x ∧ z = y + x

theorem cw_RL_71 : CWs RL 71 yL_coming cL_coming 7 (some .int) 5 := ⟨u_17_8, u_17_9, u_3_22, u_17_10, by decide +kernel⟩
set_option maxHeartbeats 4000000 in
set_option maxRecDepth 100000 in
theorem ct_L_comes (l : Launch) (L : Lay) (g : St) (hq : wq g 0) : Met l yL_comes (.code yL_comes cL_comes 13 (some .int) :: wsL_law) { frames := 1, cells := 0, slots := 0, locals := 26 } (va_Pc [.ref (adr L 14 0 0), .ref (adr L 15 0 0), .ref (adr L 16 0 0), .ref (adr L 17 0 0)] (HS L g)) (va_Qi (fun (r9 : Int32) (u : St) => ∃ z : Int, r9 = iI z ∧ (lcm g u z)) (fun u t => HS L u t) (Af L)) 0 0 (Af L) := by
  refine ct_mk (by decide +kernel) (Nat.le_of_ble_eq_true rfl) ?_
  intro pp ee ss mm bel mth cx C hr hlk
  show V pp l ee { frames := 1, cells := 0, slots := 0, locals := 26 } ss mm ([.ref (adr L 14 0 0), .ref (adr L 15 0 0), .ref (adr L 16 0 0), .ref (adr L 17 0 0)]).toArray bel mth cx 13 L (HH L g) 0 0 _ 0 [(0, .ref (adr L 14 0 0)), (1, .ref (adr L 15 0 0)), (2, .ref (adr L 16 0 0)), (3, .ref (adr L 17 0 0))] []
  have hd : (0 : Int) ≤ 0 := Int.le_refl 0
  obtain ⟨qS0, qS1, qS2, qB0, qB1, qCl, qN, qPl, qEc⟩ := wq_s hq
  have heR := wq_eR hq (by decide)
  have q6 := hq.2.1
  refine v_iconst (pc := 0) C dL_comes_0 ?_
  refine v_istore (pc := 1) C [(4, .int (iI 0)), (0, .ref (adr L 14 0 0)), (1, .ref (adr L 15 0 0)), (2, .ref (adr L 16 0 0)), (3, .ref (adr L 17 0 0))] (by decide) rfl dL_comes_1 ?_
  refine v_iconst (pc := 3) C dL_comes_3 ?_
  refine v_istore (pc := 4) C [(5, .int (iI 0)), (4, .int (iI 0)), (0, .ref (adr L 14 0 0)), (1, .ref (adr L 15 0 0)), (2, .ref (adr L 16 0 0)), (3, .ref (adr L 17 0 0))] (by decide) rfl dL_comes_4 ?_
  refine v_aload_n (pc := 6) C 2 rfl rfl dL_comes_6 ?_
  refine v_iconst (pc := 7) C dL_comes_7 ?_
  refine al_14 (pc := 8) C ⟨by (first | assumption | omega | (unfold rg; omega)), by (first | assumption | omega | (unfold rg; omega))⟩ dL_comes_8 (g 14 0 0 5) (rfl) ?_
  refine v_istore (pc := 9) C [(6, .int (iI (g 14 0 0 5))), (5, .int (iI 0)), (4, .int (iI 0)), (0, .ref (adr L 14 0 0)), (1, .ref (adr L 15 0 0)), (2, .ref (adr L 16 0 0)), (3, .ref (adr L 17 0 0))] (by decide) rfl dL_comes_9 ?_
  refine v_aload_n (pc := 11) C 3 rfl rfl dL_comes_11 ?_
  refine v_bipush (pc := 12) C rfl dL_comes_12 ?_
  refine al_14 (pc := 14) C ⟨by (first | assumption | omega | (unfold rg; omega)), by (first | assumption | omega | (unfold rg; omega))⟩ dL_comes_14 (g 14 0 0 6) (rfl) ?_
  refine v_istore (pc := 15) C [(7, .int (iI (g 14 0 0 6))), (6, .int (iI (g 14 0 0 5))), (5, .int (iI 0)), (4, .int (iI 0)), (0, .ref (adr L 14 0 0)), (1, .ref (adr L 15 0 0)), (2, .ref (adr L 16 0 0)), (3, .ref (adr L 17 0 0))] (by decide) rfl dL_comes_15 ?_
  refine v_iconst (pc := 17) C dL_comes_17 ?_
  refine v_istore (pc := 18) C [(8, .int (iI 0)), (7, .int (iI (g 14 0 0 6))), (6, .int (iI (g 14 0 0 5))), (5, .int (iI 0)), (4, .int (iI 0)), (0, .ref (adr L 14 0 0)), (1, .ref (adr L 15 0 0)), (2, .ref (adr L 16 0 0)), (3, .ref (adr L 17 0 0))] (by decide) rfl dL_comes_18 ?_
  have lb20 : ∀ (n9 : Nat) (h : St) (i : Int) (c : Int) (s : Int) (r : Int), (0 ≤ i ∧ i ≤ g 14 0 0 9) → (0 ≤ c ∧ c ≤ i) → (1 ≤ s ∧ s ≤ 9) → (r = 1 ∨ r = -1) → (∀ f : Nat, f ≠ 15 → h f = g f) → (∀ p, 0 ≤ p → p < 4 → h 15 0 0 (6 * p) = g 15 0 0 (6 * p)) → (∀ j, 0 ≤ j → j < 24 → g 15 0 0 j ≤ h 15 0 0 j ∧ h 15 0 0 j ≤ g 15 0 0 j + i) → (asX h s r c = fdL g i.toNat) → (0 < c → ∃ j, 0 ≤ j ∧ j < i ∧ g 16 0 0 j / 2 = g 14 0 0 3 ∧ g 17 0 0 j / 100 = g 14 0 0 4) → (c = 0 → s = g 14 0 0 5 ∧ r = g 14 0 0 6) → (g 14 0 0 9 - i).toNat < n9 → V pp l ee { frames := 1, cells := 0, slots := 0, locals := 26 } ss mm ([.ref (adr L 14 0 0), .ref (adr L 15 0 0), .ref (adr L 16 0 0), .ref (adr L 17 0 0)]).toArray bel mth cx 13 L (HH L h) 0 0 (MQ bel (va_Qi (fun (r9 : Int32) (u : St) => ∃ z : Int, r9 = iI z ∧ (lcm g u z)) (fun u t => HS L u t) (Af L)) ([.ref (adr L 14 0 0), .ref (adr L 15 0 0), .ref (adr L 16 0 0), .ref (adr L 17 0 0)]).toArray ss 0 0 (Af L)) 20 [(0, .ref (adr L 14 0 0)), (1, .ref (adr L 15 0 0)), (2, .ref (adr L 16 0 0)), (3, .ref (adr L 17 0 0)), (4, .int (iI c)), (5, .int (iI 0)), (6, .int (iI s)), (7, .int (iI r)), (8, .int (iI i))] [] := by
    intro n9
    induction n9 with
    | zero => intro h i c s r hi hc hs hrr hf hpp hct hfo hcz hc0 hm9; exact absurd hm9 (Nat.not_lt_zero _)
    | succ n9 ih9 =>
      intro h i c s r hi hc hs hrr hf hpp hct hfo hcz hc0 hm9
      have hf14 := hf 14 (by decide)
      have hf16 := hf 16 (by decide)
      have hf17 := hf 17 (by decide)
      have heRh : eR h := by unfold eR; rw [hf14, hf16, hf17]; exact heR
      have ih20 := ih9
      refine v_iload (pc := 20) C 8 rfl dL_comes_20 ?_
      refine v_aload_n (pc := 22) C 0 rfl rfl dL_comes_22 ?_
      refine v_bipush (pc := 23) C rfl dL_comes_23 ?_
      refine al_14 (pc := 25) C ⟨by (first | assumption | omega | (unfold rg; omega)), by (first | assumption | omega | (unfold rg; omega))⟩ dL_comes_25 (g 14 0 0 9) (by simp [hf14]) ?_
      refine v_icmp_ge (pc := 26) C 241 ⟨by (first | assumption | omega | (unfold rg; omega)), by (first | assumption | omega | (unfold rg; omega))⟩ ⟨by (first | assumption | omega | (unfold rg; omega)), by (first | assumption | omega | (unfold rg; omega))⟩ (by decide) dL_comes_26 (fun h26 => ?_) (fun h26 => ?_)
      · skip
        refine v_iconst (pc := 241) C dL_comes_241 ?_
        refine v_istore (pc := 242) C [(8, .int (iI 0)), (0, .ref (adr L 14 0 0)), (1, .ref (adr L 15 0 0)), (2, .ref (adr L 16 0 0)), (3, .ref (adr L 17 0 0)), (4, .int (iI c)), (5, .int (iI 0)), (6, .int (iI s)), (7, .int (iI r))] (by decide) rfl dL_comes_242 ?_
        have lb244 : ∀ (n9 : Nat) (v : St) (i2 : Int) (y : Int), (0 ≤ i2 ∧ i2 ≤ g 14 0 0 9) → (0 ≤ y ∧ y ≤ i2) → (∀ f : Nat, f ≠ 16 → f ≠ 17 → v f = h f) → (∀ e, y ≤ e → i2 ≤ e → v 16 0 0 e = g 16 0 0 e ∧ v 17 0 0 e = g 17 0 0 e) → ((List.range y.toNat).map (fun i : Nat => lev v i) = kpL g i2.toNat) → (g 14 0 0 9 - i2).toNat < n9 → V pp l ee { frames := 1, cells := 0, slots := 0, locals := 26 } ss mm ([.ref (adr L 14 0 0), .ref (adr L 15 0 0), .ref (adr L 16 0 0), .ref (adr L 17 0 0)]).toArray bel mth cx 13 L (HH L v) 0 0 (MQ bel (va_Qi (fun (r9 : Int32) (u : St) => ∃ z : Int, r9 = iI z ∧ (lcm g u z)) (fun u t => HS L u t) (Af L)) ([.ref (adr L 14 0 0), .ref (adr L 15 0 0), .ref (adr L 16 0 0), .ref (adr L 17 0 0)]).toArray ss 0 0 (Af L)) 244 [(0, .ref (adr L 14 0 0)), (1, .ref (adr L 15 0 0)), (2, .ref (adr L 16 0 0)), (3, .ref (adr L 17 0 0)), (4, .int (iI c)), (5, .int (iI y)), (6, .int (iI s)), (7, .int (iI r)), (8, .int (iI i2))] [] := by
          intro n9
          induction n9 with
          | zero => intro v i2 y hi2 hy hv h16 hk hm9; exact absurd hm9 (Nat.not_lt_zero _)
          | succ n9 ih9 =>
            intro v i2 y hi2 hy hv h16 hk hm9
            have hv14 : v 14 = g 14 := (hv 14 (by decide) (by decide)).trans hf14
            have hx16 := h16 i2
            have ih244 := ih9
            refine v_iload (pc := 244) C 8 rfl dL_comes_244 ?_
            refine v_aload_n (pc := 246) C 0 rfl rfl dL_comes_246 ?_
            refine v_bipush (pc := 247) C rfl dL_comes_247 ?_
            refine al_14 (pc := 249) C ⟨by (first | assumption | omega | (unfold rg; omega)), by (first | assumption | omega | (unfold rg; omega))⟩ dL_comes_249 (g 14 0 0 9) (by simp [hv14]) ?_
            refine v_icmp_ge (pc := 250) C 290 ⟨by (first | assumption | omega | (unfold rg; omega)), by (first | assumption | omega | (unfold rg; omega))⟩ ⟨by (first | assumption | omega | (unfold rg; omega)), by (first | assumption | omega | (unfold rg; omega))⟩ (by decide) dL_comes_250 (fun h250 => ?_) (fun h250 => ?_)
            · skip
              refine v_aload_n (pc := 290) C 0 rfl rfl dL_comes_290 ?_
              refine v_bipush (pc := 291) C rfl dL_comes_291 ?_
              refine v_iload (pc := 293) C 5 rfl dL_comes_293 ?_
              refine as_14 (pc := 295) C ⟨by (first | assumption | omega | (unfold rg; omega)), by (first | assumption | omega | (unfold rg; omega))⟩ dL_comes_295 ?_
              refine v_aload_n (pc := 296) C 0 rfl rfl dL_comes_296 ?_
              refine v_iconst (pc := 297) C dL_comes_297 ?_
              refine v_iload (pc := 298) C 6 rfl dL_comes_298 ?_
              refine as_14 (pc := 300) C ⟨by (first | assumption | omega | (unfold rg; omega)), by (first | assumption | omega | (unfold rg; omega))⟩ dL_comes_300 ?_
              refine v_aload_n (pc := 301) C 0 rfl rfl dL_comes_301 ?_
              refine v_bipush (pc := 302) C rfl dL_comes_302 ?_
              refine v_iload (pc := 304) C 7 rfl dL_comes_304 ?_
              refine as_14 (pc := 306) C ⟨by (first | assumption | omega | (unfold rg; omega)), by (first | assumption | omega | (unfold rg; omega))⟩ dL_comes_306 ?_
              refine v_iload (pc := 307) C 4 rfl dL_comes_307 ?_
              exact v_iret (pc := 309) C hr hlk (⟨_, rfl, lcm_end qN (by rw [hfo, show i = g 14 0 0 9 by omega]) hrr hs ⟨by omega, by omega⟩ (fun j a b => by have := hct j a b; omega) hf hv ⟨by omega, by omega⟩ (by rw [hk, show i2 = g 14 0 0 9 by omega])⟩) dL_comes_309
            · skip
              have he2 := heR.2 i2 (by omega) (by omega)
              have hx2 := hx16 (by omega) (by omega)
              refine v_aload_n (pc := 253) C 2 rfl rfl dL_comes_253 ?_
              refine v_iload (pc := 254) C 8 rfl dL_comes_254 ?_
              refine al_16 (pc := 256) C ⟨by (first | assumption | omega | (unfold rg; omega)), by (first | assumption | omega | (unfold rg; omega))⟩ dL_comes_256 (g 16 0 0 i2) (hx2.1) ?_
              refine v_iconst (pc := 257) C dL_comes_257 ?_
              refine v_idiv (pc := 258) C (⟨⟨by (first | assumption | omega | (unfold rg; omega)), by (first | assumption | omega | (unfold rg; omega))⟩, ⟨by (first | assumption | omega | (unfold rg; omega)), by (first | assumption | omega | (unfold rg; omega))⟩, by (first | assumption | omega | (unfold rg; omega)), by (first | assumption | omega | (unfold rg; omega))⟩) dL_comes_258 ?_
              refine v_aload_n (pc := 259) C 0 rfl rfl dL_comes_259 ?_
              refine v_iconst (pc := 260) C dL_comes_260 ?_
              refine al_14 (pc := 261) C ⟨by (first | assumption | omega | (unfold rg; omega)), by (first | assumption | omega | (unfold rg; omega))⟩ dL_comes_261 (g 14 0 0 3) (by simp [hv14]) ?_
              refine v_icmp_eq (pc := 262) C 284 ⟨by (first | assumption | omega | (unfold rg; omega)), by (first | assumption | omega | (unfold rg; omega))⟩ ⟨by (first | assumption | omega | (unfold rg; omega)), by (first | assumption | omega | (unfold rg; omega))⟩ (by decide) dL_comes_262 (fun h262 => ?_) (fun h262 => ?_)
              · skip
                refine v_iinc (pc := 284) C 8 [(8, .int (iI (i2 + 1))), (0, .ref (adr L 14 0 0)), (1, .ref (adr L 15 0 0)), (2, .ref (adr L 16 0 0)), (3, .ref (adr L 17 0 0)), (4, .int (iI c)), (5, .int (iI y)), (6, .int (iI s)), (7, .int (iI r))] rfl (by decide) rfl dL_comes_284 ?_
                refine v_goto (pc := 287) C 244 (by decide) dL_comes_287 ?_
                refine v_lsub [1, 2, 3, 4, 5, 6, 7, 8, 0] rfl ?_
                exact ih244 v (i2 + 1) y (by omega) (by omega) (by intro f a b; first | exact hv f a b | (rw [up_ff b, up_ff a]; exact hv f a b)) (by intro e a b; first | exact h16 e (by omega) (by omega) | (rw [up_f (by decide), up_i (by omega), up_i (by omega), up_f (by decide)]; exact h16 e (by omega) (by omega))) (by first | exact kp_no hi2.1 (by omega) (by omega) hk | exact kp_ye hi2.1 (by omega) hy.1 (by omega) hk) (by omega)
              · skip
                refine v_aload_n (pc := 265) C 2 rfl rfl dL_comes_265 ?_
                refine v_iload (pc := 266) C 5 rfl dL_comes_266 ?_
                refine v_aload_n (pc := 268) C 2 rfl rfl dL_comes_268 ?_
                refine v_iload (pc := 269) C 8 rfl dL_comes_269 ?_
                refine al_16 (pc := 271) C ⟨by (first | assumption | omega | (unfold rg; omega)), by (first | assumption | omega | (unfold rg; omega))⟩ dL_comes_271 (g 16 0 0 i2) (hx2.1) ?_
                refine as_16 (pc := 272) C ⟨by (first | assumption | omega | (unfold rg; omega)), by (first | assumption | omega | (unfold rg; omega))⟩ dL_comes_272 ?_
                refine v_aload_n (pc := 273) C 3 rfl rfl dL_comes_273 ?_
                refine v_iload (pc := 274) C 5 rfl dL_comes_274 ?_
                refine v_aload_n (pc := 276) C 3 rfl rfl dL_comes_276 ?_
                refine v_iload (pc := 277) C 8 rfl dL_comes_277 ?_
                refine al_17 (pc := 279) C ⟨by (first | assumption | omega | (unfold rg; omega)), by (first | assumption | omega | (unfold rg; omega))⟩ dL_comes_279 (g 17 0 0 i2) (by rw [up_f (by decide)]; exact hx2.2) ?_
                refine as_17 (pc := 280) C ⟨by (first | assumption | omega | (unfold rg; omega)), by (first | assumption | omega | (unfold rg; omega))⟩ dL_comes_280 ?_
                refine v_iinc (pc := 281) C 5 [(5, .int (iI (y + 1))), (0, .ref (adr L 14 0 0)), (1, .ref (adr L 15 0 0)), (2, .ref (adr L 16 0 0)), (3, .ref (adr L 17 0 0)), (4, .int (iI c)), (6, .int (iI s)), (7, .int (iI r)), (8, .int (iI i2))] rfl (by decide) rfl dL_comes_281 ?_
                refine v_iinc (pc := 284) C 8 [(8, .int (iI (i2 + 1))), (5, .int (iI (y + 1))), (0, .ref (adr L 14 0 0)), (1, .ref (adr L 15 0 0)), (2, .ref (adr L 16 0 0)), (3, .ref (adr L 17 0 0)), (4, .int (iI c)), (6, .int (iI s)), (7, .int (iI r))] rfl (by decide) rfl dL_comes_284 ?_
                refine v_goto (pc := 287) C 244 (by decide) dL_comes_287 ?_
                refine v_lsub [2, 3, 4, 5, 6, 1, 7, 8, 0] rfl ?_
                exact ih244 (up (up v 16 0 0 y (g 16 0 0 i2)) 17 0 0 y (g 17 0 0 i2)) (i2 + 1) (y + 1) (by omega) (by omega) (by intro f a b; first | exact hv f a b | (rw [up_ff b, up_ff a]; exact hv f a b)) (by intro e a b; first | exact h16 e (by omega) (by omega) | (rw [up_f (by decide), up_i (by omega), up_i (by omega), up_f (by decide)]; exact h16 e (by omega) (by omega))) (by first | exact kp_no hi2.1 (by omega) (by omega) hk | exact kp_ye hi2.1 (by omega) hy.1 (by omega) hk) (by omega)
        refine v_lsub [1, 2, 3, 4, 5, 6, 7, 8, 0] rfl ?_
        exact lb244 _ h 0 0 (by omega) (by omega) (by exact fun _ _ _ => rfl) (by exact fun e a b => ⟨by rw [hf16], by rw [hf17]⟩) (by rfl) (Nat.lt_succ_self _)
      · skip
        have he := qEc i (by omega) (by omega)
        have he2 := heR.2 i (by omega) (by omega)
        refine v_aload_n (pc := 29) C 3 rfl rfl dL_comes_29 ?_
        refine v_iload (pc := 30) C 8 rfl dL_comes_30 ?_
        refine al_17 (pc := 32) C ⟨by (first | assumption | omega | (unfold rg; omega)), by (first | assumption | omega | (unfold rg; omega))⟩ dL_comes_32 (g 17 0 0 i) (by simp [hf17]) ?_
        refine v_bipush (pc := 33) C rfl dL_comes_33 ?_
        refine v_idiv (pc := 35) C (⟨⟨by (first | assumption | omega | (unfold rg; omega)), by (first | assumption | omega | (unfold rg; omega))⟩, ⟨by (first | assumption | omega | (unfold rg; omega)), by (first | assumption | omega | (unfold rg; omega))⟩, by (first | assumption | omega | (unfold rg; omega)), by (first | assumption | omega | (unfold rg; omega))⟩) dL_comes_35 ?_
        refine v_istore (pc := 36) C [(9, .int (iI ((g 17 0 0 i) / 100))), (0, .ref (adr L 14 0 0)), (1, .ref (adr L 15 0 0)), (2, .ref (adr L 16 0 0)), (3, .ref (adr L 17 0 0)), (4, .int (iI c)), (5, .int (iI 0)), (6, .int (iI s)), (7, .int (iI r)), (8, .int (iI i))] (by decide) rfl dL_comes_36 ?_
        refine v_aload_n (pc := 38) C 4 rfl rfl dL_comes_38 ?_
        refine v_iload (pc := 39) C 9 rfl dL_comes_39 ?_
        refine al_17 (pc := 41) C ⟨by (first | assumption | omega | (unfold rg; omega)), by (first | assumption | omega | (unfold rg; omega))⟩ dL_comes_41 (g 17 0 0 i) (by simp [hf17]) ?_
        refine v_bipush (pc := 42) C rfl dL_comes_42 ?_
        refine v_idiv (pc := 44) C (⟨⟨by (first | assumption | omega | (unfold rg; omega)), by (first | assumption | omega | (unfold rg; omega))⟩, ⟨by (first | assumption | omega | (unfold rg; omega)), by (first | assumption | omega | (unfold rg; omega))⟩, by (first | assumption | omega | (unfold rg; omega)), by (first | assumption | omega | (unfold rg; omega))⟩) dL_comes_44 ?_
        refine v_bipush (pc := 45) C rfl dL_comes_45 ?_
        refine v_irem (pc := 47) C (⟨⟨by (first | assumption | omega | (unfold rg; omega)), by (first | assumption | omega | (unfold rg; omega))⟩, ⟨by (first | assumption | omega | (unfold rg; omega)), by (first | assumption | omega | (unfold rg; omega))⟩, by (first | assumption | omega | (unfold rg; omega)), by (first | assumption | omega | (unfold rg; omega))⟩) dL_comes_47 ?_
        refine v_istore (pc := 48) C [(10, .int (iI (((g 17 0 0 i) / 10) % 10))), (9, .int (iI ((g 17 0 0 i) / 100))), (0, .ref (adr L 14 0 0)), (1, .ref (adr L 15 0 0)), (2, .ref (adr L 16 0 0)), (3, .ref (adr L 17 0 0)), (4, .int (iI c)), (5, .int (iI 0)), (6, .int (iI s)), (7, .int (iI r)), (8, .int (iI i))] (by decide) rfl dL_comes_48 ?_
        refine v_aload_n (pc := 50) C 4 rfl rfl dL_comes_50 ?_
        refine v_iload (pc := 51) C 10 rfl dL_comes_51 ?_
        refine al_16 (pc := 53) C ⟨by (first | assumption | omega | (unfold rg; omega)), by (first | assumption | omega | (unfold rg; omega))⟩ dL_comes_53 (g 16 0 0 i) (by simp [hf16]) ?_
        refine v_iconst (pc := 54) C dL_comes_54 ?_
        refine v_idiv (pc := 55) C (⟨⟨by (first | assumption | omega | (unfold rg; omega)), by (first | assumption | omega | (unfold rg; omega))⟩, ⟨by (first | assumption | omega | (unfold rg; omega)), by (first | assumption | omega | (unfold rg; omega))⟩, by (first | assumption | omega | (unfold rg; omega)), by (first | assumption | omega | (unfold rg; omega))⟩) dL_comes_55 ?_
        refine v_aload_n (pc := 56) C 2 rfl rfl dL_comes_56 ?_
        refine v_iconst (pc := 57) C dL_comes_57 ?_
        refine al_14 (pc := 58) C ⟨by (first | assumption | omega | (unfold rg; omega)), by (first | assumption | omega | (unfold rg; omega))⟩ dL_comes_58 (g 14 0 0 3) (by simp [hf14]) ?_
        refine v_icmp_ne (pc := 59) C 235 ⟨by (first | assumption | omega | (unfold rg; omega)), by (first | assumption | omega | (unfold rg; omega))⟩ ⟨by (first | assumption | omega | (unfold rg; omega)), by (first | assumption | omega | (unfold rg; omega))⟩ (by decide) dL_comes_59 (fun h59 => ?_) (fun h59 => ?_)
        · skip
          refine v_iinc (pc := 235) C 10 [(8, .int (iI (i + 1))), (10, .int (iI (((g 17 0 0 i) / 10) % 10))), (9, .int (iI ((g 17 0 0 i) / 100))), (0, .ref (adr L 14 0 0)), (1, .ref (adr L 15 0 0)), (2, .ref (adr L 16 0 0)), (3, .ref (adr L 17 0 0)), (4, .int (iI c)), (5, .int (iI 0)), (6, .int (iI s)), (7, .int (iI r))] rfl (by decide) rfl dL_comes_235 ?_
          refine v_goto (pc := 238) C 20 (by decide) dL_comes_238 ?_
          refine v_lsub [3, 4, 5, 6, 7, 8, 9, 10, 0] rfl ?_
          exact ih20 h (i + 1) c s r (by omega) (by omega) (by first | omega | ((repeat' split) <;> omega)) (by omega) (by intro f hff; first | exact hf f hff | (rw [up_ff hff]; exact hf f hff) | (rw [up_ff hff, up_ff hff]; exact hf f hff)) (by intro p p0 p4; first | exact hpp p p0 p4 | (rw [up_i (by omega)]; exact hpp p p0 p4) | (rw [up_i (by omega), up_i (by omega)]; exact hpp p p0 p4)) (by intro j j0 j1; have hj := hct j j0 j1; first | omega | (simp only [up]; (repeat' split) <;> first | omega | (rename_i hx; first | (obtain ⟨-, -, -, rfl⟩ := hx; omega) | omega) | grind)) (by first | exact cm_no hi.1 (by omega) hfo (by omega) | exact cm_4 hi.1 (by omega) ⟨by omega, by omega⟩ hfo (by omega) (by omega) | exact cm_5 hi.1 (by omega) ⟨by omega, by omega⟩ hfo (by omega) (by omega) (by omega) | exact cm_3 hi.1 (by omega) ⟨by omega, by omega⟩ hfo (by omega) (by omega) (by omega) (by omega) | exact cm_c hi.1 (by omega) ⟨by omega, by omega⟩ hfo (by omega) (by omega) (by omega) (by omega) (by unfold fwS; (repeat' split) <;> omega) (by unfold fwR; (repeat' split) <;> omega)) (by first | exact (fun hx => ⟨i, hi.1, by omega, by omega, by omega⟩) | exact (fun hx => by obtain ⟨j, a, b, e1, e2⟩ := hcz hx; exact ⟨j, a, by omega, e1, e2⟩)) (by first | exact hc0 | exact (fun hx => absurd hx (by omega))) (by omega)
        · skip
          refine v_iload (pc := 62) C 1 rfl dL_comes_62 ?_
          refine v_aload_n (pc := 64) C 2 rfl rfl dL_comes_64 ?_
          refine v_iconst (pc := 65) C dL_comes_65 ?_
          refine al_14 (pc := 66) C ⟨by (first | assumption | omega | (unfold rg; omega)), by (first | assumption | omega | (unfold rg; omega))⟩ dL_comes_66 (g 14 0 0 3) (by simp [hf14]) ?_
          refine v_aload_n (pc := 67) C 2 rfl rfl dL_comes_67 ?_
          refine v_aload_n (pc := 68) C 4 rfl rfl dL_comes_68 ?_
          refine v_aload_n (pc := 69) C 5 rfl rfl dL_comes_69 ?_
          refine v_calliS (pc := 70) C cw_RL_71 (ct_L_coming l L h ((g 17 0 0 i) / 100) (g 14 0 0 3) (by exact heRh) (by first | assumption | omega | (unfold rg; omega)) (by first | assumption | omega | (unfold rg; omega))) ⟨Nat.le_of_ble_eq_true rfl, Nat.le_of_ble_eq_true rfl⟩ rfl (Nat.le_of_ble_eq_true rfl) ⟨Nat.le_of_ble_eq_true rfl, Nat.le_of_ble_eq_true rfl⟩ rfl dL_comes_70 (fun r9 u9 hP_1 => ?_)
          obtain ⟨hP_1, hP_1b⟩ := hP_1
          rw [hP_1, hP_1b]
          clear hP_1 hP_1b r9 u9
          have hco := lCo_in g (g 17 0 0 i / 100) (g 14 0 0 3)
          refine v_topi (b := lCo g (g 17 0 0 i / 100) (g 14 0 0 3)) C (by unfold lCo lDu; rw [hf14, hf16, hf17]) ?_
          refine v_iconst (pc := 73) C dL_comes_73 ?_
          refine v_icmp_le (pc := 74) C 81 ⟨by (first | assumption | omega | (unfold rg; omega)), by (first | assumption | omega | (unfold rg; omega))⟩ ⟨by (first | assumption | omega | (unfold rg; omega)), by (first | assumption | omega | (unfold rg; omega))⟩ (by decide) dL_comes_74 (fun h74 => ?_) (fun h74 => ?_)
          · skip
            have hpa := qPl (g 17 0 0 i / 10 % 10) (by omega) (by omega)
            refine v_aload_n (pc := 81) C 3 rfl rfl dL_comes_81 ?_
            refine v_bipush (pc := 82) C rfl dL_comes_82 ?_
            refine v_iload (pc := 84) C 0 rfl dL_comes_84 ?_
            refine v_imul (pc := 86) C dL_comes_86 ?_
            refine al_15 (pc := 87) C ⟨by (first | assumption | omega | (unfold rg; omega)), by (first | assumption | omega | (unfold rg; omega))⟩ dL_comes_87 (g 15 0 0 (6 * (g 17 0 0 i / 10 % 10))) (hpp _ (by omega) (by omega)) ?_
            refine v_iload (pc := 88) C 1 rfl dL_comes_88 ?_
            refine v_icmp_ne (pc := 90) C 97 ⟨by (first | assumption | omega | (unfold rg; omega)), by (first | assumption | omega | (unfold rg; omega))⟩ ⟨by (first | assumption | omega | (unfold rg; omega)), by (first | assumption | omega | (unfold rg; omega))⟩ (by decide) dL_comes_90 (fun h90 => ?_) (fun h90 => ?_)
            · skip
              refine v_iconst (pc := 97) C dL_comes_97 ?_
              refine v_istore (pc := 98) C [(11, .int (iI 5)), (10, .int (iI (((g 17 0 0 i) / 10) % 10))), (9, .int (iI ((g 17 0 0 i) / 100))), (0, .ref (adr L 14 0 0)), (1, .ref (adr L 15 0 0)), (2, .ref (adr L 16 0 0)), (3, .ref (adr L 17 0 0)), (4, .int (iI c)), (5, .int (iI 0)), (6, .int (iI s)), (7, .int (iI r)), (8, .int (iI i))] (by decide) rfl dL_comes_98 ?_
              refine v_aload_n (pc := 100) C 4 rfl rfl dL_comes_100 ?_
              refine v_bipush (pc := 101) C rfl dL_comes_101 ?_
              refine v_iload (pc := 103) C 1 rfl dL_comes_103 ?_
              refine v_imul (pc := 105) C dL_comes_105 ?_
              refine v_iload (pc := 106) C 0 rfl dL_comes_106 ?_
              refine v_iadd (pc := 108) C dL_comes_108 ?_
              refine v_dup2 (pc := 109) C rfl rfl dL_comes_109 ?_
              refine al_15 (pc := 110) C ⟨by (first | assumption | omega | (unfold rg; omega)), by (first | assumption | omega | (unfold rg; omega))⟩ dL_comes_110 (h 15 0 0 ((6 * (((g 17 0 0 i) / 10) % 10)) + 5)) (rfl) ?_
              refine v_iconst (pc := 111) C dL_comes_111 ?_
              refine v_iadd (pc := 112) C dL_comes_112 ?_
              refine as_15 (pc := 113) C ⟨by (first | assumption | omega | (unfold rg; omega)), by (first | assumption | omega | (unfold rg; omega))⟩ dL_comes_113 ?_
              refine v_iload (pc := 114) C 0 rfl dL_comes_114 ?_
              refine v_iconst (pc := 116) C dL_comes_116 ?_
              refine v_icmp_ne (pc := 117) C 235 ⟨by (first | assumption | omega | (unfold rg; omega)), by (first | assumption | omega | (unfold rg; omega))⟩ ⟨by (first | assumption | omega | (unfold rg; omega)), by (first | assumption | omega | (unfold rg; omega))⟩ (by decide) dL_comes_117 (fun h117 => ?_) (fun h117 => ?_)
              · skip
                refine v_iinc (pc := 235) C 11 [(8, .int (iI (i + 1))), (11, .int (iI 5)), (10, .int (iI (((g 17 0 0 i) / 10) % 10))), (9, .int (iI ((g 17 0 0 i) / 100))), (0, .ref (adr L 14 0 0)), (1, .ref (adr L 15 0 0)), (2, .ref (adr L 16 0 0)), (3, .ref (adr L 17 0 0)), (4, .int (iI c)), (5, .int (iI 0)), (6, .int (iI s)), (7, .int (iI r))] rfl (by decide) rfl dL_comes_235 ?_
                refine v_goto (pc := 238) C 20 (by decide) dL_comes_238 ?_
                refine v_lsub [4, 5, 6, 7, 8, 9, 10, 11, 0] rfl ?_
                exact ih20 (up h 15 0 0 ((6 * (((g 17 0 0 i) / 10) % 10)) + 5) ((h 15 0 0 ((6 * (((g 17 0 0 i) / 10) % 10)) + 5)) + 1)) (i + 1) c s r (by omega) (by omega) (by first | omega | ((repeat' split) <;> omega)) (by omega) (by intro f hff; first | exact hf f hff | (rw [up_ff hff]; exact hf f hff) | (rw [up_ff hff, up_ff hff]; exact hf f hff)) (by intro p p0 p4; first | exact hpp p p0 p4 | (rw [up_i (by omega)]; exact hpp p p0 p4) | (rw [up_i (by omega), up_i (by omega)]; exact hpp p p0 p4)) (by intro j j0 j1; have hj := hct j j0 j1; first | omega | (simp only [up]; (repeat' split) <;> first | omega | (rename_i hx; first | (obtain ⟨-, -, -, rfl⟩ := hx; omega) | omega) | grind)) (by first | exact cm_no hi.1 (by omega) hfo (by omega) | exact cm_4 hi.1 (by omega) ⟨by omega, by omega⟩ hfo (by omega) (by omega) | exact cm_5 hi.1 (by omega) ⟨by omega, by omega⟩ hfo (by omega) (by omega) (by omega) | exact cm_3 hi.1 (by omega) ⟨by omega, by omega⟩ hfo (by omega) (by omega) (by omega) (by omega) | exact cm_c hi.1 (by omega) ⟨by omega, by omega⟩ hfo (by omega) (by omega) (by omega) (by omega) (by unfold fwS; (repeat' split) <;> omega) (by unfold fwR; (repeat' split) <;> omega)) (by first | exact (fun hx => ⟨i, hi.1, by omega, by omega, by omega⟩) | exact (fun hx => by obtain ⟨j, a, b, e1, e2⟩ := hcz hx; exact ⟨j, a, by omega, e1, e2⟩)) (by first | exact hc0 | exact (fun hx => absurd hx (by omega))) (by omega)
              · skip
                exfalso; omega
            · skip
              refine v_iconst (pc := 93) C dL_comes_93 ?_
              refine v_goto (pc := 94) C 98 (by decide) dL_comes_94 ?_
              refine v_istore (pc := 98) C [(11, .int (iI 3)), (10, .int (iI (((g 17 0 0 i) / 10) % 10))), (9, .int (iI ((g 17 0 0 i) / 100))), (0, .ref (adr L 14 0 0)), (1, .ref (adr L 15 0 0)), (2, .ref (adr L 16 0 0)), (3, .ref (adr L 17 0 0)), (4, .int (iI c)), (5, .int (iI 0)), (6, .int (iI s)), (7, .int (iI r)), (8, .int (iI i))] (by decide) rfl dL_comes_98 ?_
              refine v_aload_n (pc := 100) C 4 rfl rfl dL_comes_100 ?_
              refine v_bipush (pc := 101) C rfl dL_comes_101 ?_
              refine v_iload (pc := 103) C 1 rfl dL_comes_103 ?_
              refine v_imul (pc := 105) C dL_comes_105 ?_
              refine v_iload (pc := 106) C 0 rfl dL_comes_106 ?_
              refine v_iadd (pc := 108) C dL_comes_108 ?_
              refine v_dup2 (pc := 109) C rfl rfl dL_comes_109 ?_
              refine al_15 (pc := 110) C ⟨by (first | assumption | omega | (unfold rg; omega)), by (first | assumption | omega | (unfold rg; omega))⟩ dL_comes_110 (h 15 0 0 ((6 * (((g 17 0 0 i) / 10) % 10)) + 3)) (rfl) ?_
              refine v_iconst (pc := 111) C dL_comes_111 ?_
              refine v_iadd (pc := 112) C dL_comes_112 ?_
              refine as_15 (pc := 113) C ⟨by (first | assumption | omega | (unfold rg; omega)), by (first | assumption | omega | (unfold rg; omega))⟩ dL_comes_113 ?_
              refine v_iload (pc := 114) C 0 rfl dL_comes_114 ?_
              refine v_iconst (pc := 116) C dL_comes_116 ?_
              refine v_icmp_ne (pc := 117) C 235 ⟨by (first | assumption | omega | (unfold rg; omega)), by (first | assumption | omega | (unfold rg; omega))⟩ ⟨by (first | assumption | omega | (unfold rg; omega)), by (first | assumption | omega | (unfold rg; omega))⟩ (by decide) dL_comes_117 (fun h117 => ?_) (fun h117 => ?_)
              · skip
                exfalso; omega
              · skip
                refine v_aload_n (pc := 120) C 3 rfl rfl dL_comes_120 ?_
                refine v_iconst (pc := 121) C dL_comes_121 ?_
                refine al_14 (pc := 122) C ⟨by (first | assumption | omega | (unfold rg; omega)), by (first | assumption | omega | (unfold rg; omega))⟩ dL_comes_122 (g 14 0 0 4) (by simp [up, hf14]) ?_
                refine v_iload (pc := 123) C 2 rfl dL_comes_123 ?_
                refine v_icmp_ne (pc := 125) C 235 ⟨by (first | assumption | omega | (unfold rg; omega)), by (first | assumption | omega | (unfold rg; omega))⟩ ⟨by (first | assumption | omega | (unfold rg; omega)), by (first | assumption | omega | (unfold rg; omega))⟩ (by decide) dL_comes_125 (fun h125 => ?_) (fun h125 => ?_)
                · skip
                  refine v_iinc (pc := 235) C 11 [(8, .int (iI (i + 1))), (11, .int (iI 3)), (10, .int (iI (((g 17 0 0 i) / 10) % 10))), (9, .int (iI ((g 17 0 0 i) / 100))), (0, .ref (adr L 14 0 0)), (1, .ref (adr L 15 0 0)), (2, .ref (adr L 16 0 0)), (3, .ref (adr L 17 0 0)), (4, .int (iI c)), (5, .int (iI 0)), (6, .int (iI s)), (7, .int (iI r))] rfl (by decide) rfl dL_comes_235 ?_
                  refine v_goto (pc := 238) C 20 (by decide) dL_comes_238 ?_
                  refine v_lsub [4, 5, 6, 7, 8, 9, 10, 11, 0] rfl ?_
                  exact ih20 (up h 15 0 0 ((6 * (((g 17 0 0 i) / 10) % 10)) + 3) ((h 15 0 0 ((6 * (((g 17 0 0 i) / 10) % 10)) + 3)) + 1)) (i + 1) c s r (by omega) (by omega) (by first | omega | ((repeat' split) <;> omega)) (by omega) (by intro f hff; first | exact hf f hff | (rw [up_ff hff]; exact hf f hff) | (rw [up_ff hff, up_ff hff]; exact hf f hff)) (by intro p p0 p4; first | exact hpp p p0 p4 | (rw [up_i (by omega)]; exact hpp p p0 p4) | (rw [up_i (by omega), up_i (by omega)]; exact hpp p p0 p4)) (by intro j j0 j1; have hj := hct j j0 j1; first | omega | (simp only [up]; (repeat' split) <;> first | omega | (rename_i hx; first | (obtain ⟨-, -, -, rfl⟩ := hx; omega) | omega) | grind)) (by first | exact cm_no hi.1 (by omega) hfo (by omega) | exact cm_4 hi.1 (by omega) ⟨by omega, by omega⟩ hfo (by omega) (by omega) | exact cm_5 hi.1 (by omega) ⟨by omega, by omega⟩ hfo (by omega) (by omega) (by omega) | exact cm_3 hi.1 (by omega) ⟨by omega, by omega⟩ hfo (by omega) (by omega) (by omega) (by omega) | exact cm_c hi.1 (by omega) ⟨by omega, by omega⟩ hfo (by omega) (by omega) (by omega) (by omega) (by unfold fwS; (repeat' split) <;> omega) (by unfold fwR; (repeat' split) <;> omega)) (by first | exact (fun hx => ⟨i, hi.1, by omega, by omega, by omega⟩) | exact (fun hx => by obtain ⟨j, a, b, e1, e2⟩ := hcz hx; exact ⟨j, a, by omega, e1, e2⟩)) (by first | exact hc0 | exact (fun hx => absurd hx (by omega))) (by omega)
                · skip
                  have hcc0 : c = 0 := Decidable.byContradiction (fun hx => by obtain ⟨j, a, b, e1, e2⟩ := hcz (by omega); exact cm_u hi.1 (by omega) (by omega) (by omega) (by omega) a b e1 e2)
                  have hsr := hc0 hcc0
                  clear hcz
                  refine v_aload_n (pc := 128) C 6 rfl rfl dL_comes_128 ?_
                  refine v_iload (pc := 129) C 11 rfl dL_comes_129 ?_
                  refine al_17 (pc := 131) C ⟨by (first | assumption | omega | (unfold rg; omega)), by (first | assumption | omega | (unfold rg; omega))⟩ dL_comes_131 (g 17 0 0 i) (by simp [up, hf17]) ?_
                  refine v_bipush (pc := 132) C rfl dL_comes_132 ?_
                  refine v_irem (pc := 134) C (⟨⟨by (first | assumption | omega | (unfold rg; omega)), by (first | assumption | omega | (unfold rg; omega))⟩, ⟨by (first | assumption | omega | (unfold rg; omega)), by (first | assumption | omega | (unfold rg; omega))⟩, by (first | assumption | omega | (unfold rg; omega)), by (first | assumption | omega | (unfold rg; omega))⟩) dL_comes_134 ?_
                  refine v_istore (pc := 135) C [(12, .int (iI ((g 17 0 0 i) % 10))), (11, .int (iI 3)), (10, .int (iI (((g 17 0 0 i) / 10) % 10))), (9, .int (iI ((g 17 0 0 i) / 100))), (0, .ref (adr L 14 0 0)), (1, .ref (adr L 15 0 0)), (2, .ref (adr L 16 0 0)), (3, .ref (adr L 17 0 0)), (4, .int (iI c)), (5, .int (iI 0)), (6, .int (iI s)), (7, .int (iI r)), (8, .int (iI i))] (by decide) rfl dL_comes_135 ?_
                  refine v_aload_n (pc := 137) C 5 rfl rfl dL_comes_137 ?_
                  refine v_bipush (pc := 138) C rfl dL_comes_138 ?_
                  refine v_iload (pc := 140) C 2 rfl dL_comes_140 ?_
                  refine v_imul (pc := 142) C dL_comes_142 ?_
                  refine v_iconst (pc := 143) C dL_comes_143 ?_
                  refine v_iadd (pc := 144) C dL_comes_144 ?_
                  refine v_dup2 (pc := 145) C rfl rfl dL_comes_145 ?_
                  refine al_15 (pc := 146) C ⟨by (first | assumption | omega | (unfold rg; omega)), by (first | assumption | omega | (unfold rg; omega))⟩ dL_comes_146 ((up h 15 0 0 ((6 * (((g 17 0 0 i) / 10) % 10)) + 3) ((h 15 0 0 ((6 * (((g 17 0 0 i) / 10) % 10)) + 3)) + 1)) 15 0 0 ((6 * (((g 17 0 0 i) / 10) % 10)) + 1)) (rfl) ?_
                  refine v_iconst (pc := 147) C dL_comes_147 ?_
                  refine v_iadd (pc := 148) C dL_comes_148 ?_
                  refine as_15 (pc := 149) C ⟨by (first | assumption | omega | (unfold rg; omega)), by (first | assumption | omega | (unfold rg; omega))⟩ dL_comes_149 ?_
                  refine v_iinc (pc := 150) C 8 [(4, .int (iI (c + 1))), (12, .int (iI ((g 17 0 0 i) % 10))), (11, .int (iI 3)), (10, .int (iI (((g 17 0 0 i) / 10) % 10))), (9, .int (iI ((g 17 0 0 i) / 100))), (0, .ref (adr L 14 0 0)), (1, .ref (adr L 15 0 0)), (2, .ref (adr L 16 0 0)), (3, .ref (adr L 17 0 0)), (5, .int (iI 0)), (6, .int (iI s)), (7, .int (iI r)), (8, .int (iI i))] rfl (by decide) rfl dL_comes_150 ?_
                  refine v_iload (pc := 153) C 1 rfl dL_comes_153 ?_
                  refine v_iconst (pc := 155) C dL_comes_155 ?_
                  refine v_irem (pc := 156) C (⟨⟨by (first | assumption | omega | (unfold rg; omega)), by (first | assumption | omega | (unfold rg; omega))⟩, ⟨by (first | assumption | omega | (unfold rg; omega)), by (first | assumption | omega | (unfold rg; omega))⟩, by (first | assumption | omega | (unfold rg; omega)), by (first | assumption | omega | (unfold rg; omega))⟩) dL_comes_156 ?_
                  refine v_if_ne (pc := 157) C 168 ⟨by (first | assumption | omega | (unfold rg; omega)), by (first | assumption | omega | (unfold rg; omega))⟩ (by decide) dL_comes_157 (fun h157 => ?_) (fun h157 => ?_)
                  · skip
                    refine v_aload_n (pc := 168) C 5 rfl rfl dL_comes_168 ?_
                    refine v_bipush (pc := 169) C rfl dL_comes_169 ?_
                    refine al_14 (pc := 171) C ⟨by (first | assumption | omega | (unfold rg; omega)), by (first | assumption | omega | (unfold rg; omega))⟩ dL_comes_171 (g 14 0 0 6) (by simp [up, hf14]) ?_
                    refine v_istore (pc := 172) C [(7, .int (iI (g 14 0 0 6))), (4, .int (iI (c + 1))), (12, .int (iI ((g 17 0 0 i) % 10))), (11, .int (iI 3)), (10, .int (iI (((g 17 0 0 i) / 10) % 10))), (9, .int (iI ((g 17 0 0 i) / 100))), (0, .ref (adr L 14 0 0)), (1, .ref (adr L 15 0 0)), (2, .ref (adr L 16 0 0)), (3, .ref (adr L 17 0 0)), (5, .int (iI 0)), (6, .int (iI s)), (8, .int (iI i))] (by decide) rfl dL_comes_172 ?_
                    refine v_iload (pc := 174) C 2 rfl dL_comes_174 ?_
                    refine v_iconst (pc := 176) C dL_comes_176 ?_
                    refine v_irem (pc := 177) C (⟨⟨by (first | assumption | omega | (unfold rg; omega)), by (first | assumption | omega | (unfold rg; omega))⟩, ⟨by (first | assumption | omega | (unfold rg; omega)), by (first | assumption | omega | (unfold rg; omega))⟩, by (first | assumption | omega | (unfold rg; omega)), by (first | assumption | omega | (unfold rg; omega))⟩) dL_comes_177 ?_
                    refine v_iconst (pc := 178) C dL_comes_178 ?_
                    refine v_icmp_ne (pc := 179) C 203 ⟨by (first | assumption | omega | (unfold rg; omega)), by (first | assumption | omega | (unfold rg; omega))⟩ ⟨by (first | assumption | omega | (unfold rg; omega)), by (first | assumption | omega | (unfold rg; omega))⟩ (by decide) dL_comes_179 (fun h179 => ?_) (fun h179 => ?_)
                    · skip
                      refine v_iload (pc := 203) C 2 rfl dL_comes_203 ?_
                      refine v_iconst (pc := 205) C dL_comes_205 ?_
                      refine v_irem (pc := 206) C (⟨⟨by (first | assumption | omega | (unfold rg; omega)), by (first | assumption | omega | (unfold rg; omega))⟩, ⟨by (first | assumption | omega | (unfold rg; omega)), by (first | assumption | omega | (unfold rg; omega))⟩, by (first | assumption | omega | (unfold rg; omega)), by (first | assumption | omega | (unfold rg; omega))⟩) dL_comes_206 ?_
                      refine v_iconst (pc := 207) C dL_comes_207 ?_
                      refine v_icmp_ne (pc := 208) C 230 ⟨by (first | assumption | omega | (unfold rg; omega)), by (first | assumption | omega | (unfold rg; omega))⟩ ⟨by (first | assumption | omega | (unfold rg; omega)), by (first | assumption | omega | (unfold rg; omega))⟩ (by decide) dL_comes_208 (fun h208 => ?_) (fun h208 => ?_)
                      · skip
                        refine v_aload_n (pc := 230) C 6 rfl rfl dL_comes_230 ?_
                        refine v_iconst (pc := 231) C dL_comes_231 ?_
                        refine al_14 (pc := 232) C ⟨by (first | assumption | omega | (unfold rg; omega)), by (first | assumption | omega | (unfold rg; omega))⟩ dL_comes_232 (g 14 0 0 5) (by simp [up, hf14]) ?_
                        refine v_istore (pc := 233) C [(6, .int (iI (g 14 0 0 5))), (7, .int (iI (g 14 0 0 6))), (4, .int (iI (c + 1))), (12, .int (iI ((g 17 0 0 i) % 10))), (11, .int (iI 3)), (10, .int (iI (((g 17 0 0 i) / 10) % 10))), (9, .int (iI ((g 17 0 0 i) / 100))), (0, .ref (adr L 14 0 0)), (1, .ref (adr L 15 0 0)), (2, .ref (adr L 16 0 0)), (3, .ref (adr L 17 0 0)), (5, .int (iI 0)), (8, .int (iI i))] (by decide) rfl dL_comes_233 ?_
                        refine v_iinc (pc := 235) C 12 [(8, .int (iI (i + 1))), (6, .int (iI (g 14 0 0 5))), (7, .int (iI (g 14 0 0 6))), (4, .int (iI (c + 1))), (12, .int (iI ((g 17 0 0 i) % 10))), (11, .int (iI 3)), (10, .int (iI (((g 17 0 0 i) / 10) % 10))), (9, .int (iI ((g 17 0 0 i) / 100))), (0, .ref (adr L 14 0 0)), (1, .ref (adr L 15 0 0)), (2, .ref (adr L 16 0 0)), (3, .ref (adr L 17 0 0)), (5, .int (iI 0))] rfl (by decide) rfl dL_comes_235 ?_
                        refine v_goto (pc := 238) C 20 (by decide) dL_comes_238 ?_
                        refine v_lsub [8, 9, 10, 11, 3, 12, 1, 2, 0] rfl ?_
                        exact ih20 (up (up h 15 0 0 ((6 * (((g 17 0 0 i) / 10) % 10)) + 3) ((h 15 0 0 ((6 * (((g 17 0 0 i) / 10) % 10)) + 3)) + 1)) 15 0 0 ((6 * (((g 17 0 0 i) / 10) % 10)) + 1) (((up h 15 0 0 ((6 * (((g 17 0 0 i) / 10) % 10)) + 3) ((h 15 0 0 ((6 * (((g 17 0 0 i) / 10) % 10)) + 3)) + 1)) 15 0 0 ((6 * (((g 17 0 0 i) / 10) % 10)) + 1)) + 1)) (i + 1) (c + 1) (g 14 0 0 5) (g 14 0 0 6) (by omega) (by omega) (by first | omega | ((repeat' split) <;> omega)) (by omega) (by intro f hff; first | exact hf f hff | (rw [up_ff hff]; exact hf f hff) | (rw [up_ff hff, up_ff hff]; exact hf f hff)) (by intro p p0 p4; first | exact hpp p p0 p4 | (rw [up_i (by omega)]; exact hpp p p0 p4) | (rw [up_i (by omega), up_i (by omega)]; exact hpp p p0 p4)) (by intro j j0 j1; have hj := hct j j0 j1; first | omega | (simp only [up]; (repeat' split) <;> first | omega | (rename_i hx; first | (obtain ⟨-, -, -, rfl⟩ := hx; omega) | omega) | grind)) (by first | exact cm_no hi.1 (by omega) hfo (by omega) | exact cm_4 hi.1 (by omega) ⟨by omega, by omega⟩ hfo (by omega) (by omega) | exact cm_5 hi.1 (by omega) ⟨by omega, by omega⟩ hfo (by omega) (by omega) (by omega) | exact cm_3 hi.1 (by omega) ⟨by omega, by omega⟩ hfo (by omega) (by omega) (by omega) (by omega) | exact cm_c hi.1 (by omega) ⟨by omega, by omega⟩ hfo (by omega) (by omega) (by omega) (by omega) (by unfold fwS; (repeat' split) <;> omega) (by unfold fwR; (repeat' split) <;> omega)) (by first | exact (fun hx => ⟨i, hi.1, by omega, by omega, by omega⟩) | exact (fun hx => by obtain ⟨j, a, b, e1, e2⟩ := hcz hx; exact ⟨j, a, by omega, e1, e2⟩)) (by first | exact hc0 | exact (fun hx => absurd hx (by omega))) (by omega)
                      · skip
                        refine v_aload_n (pc := 211) C 6 rfl rfl dL_comes_211 ?_
                        refine v_iconst (pc := 212) C dL_comes_212 ?_
                        refine al_14 (pc := 213) C ⟨by (first | assumption | omega | (unfold rg; omega)), by (first | assumption | omega | (unfold rg; omega))⟩ dL_comes_213 (g 14 0 0 5) (by simp [up, hf14]) ?_
                        refine v_iconst (pc := 214) C dL_comes_214 ?_
                        refine v_icmp_ne (pc := 215) C 222 ⟨by (first | assumption | omega | (unfold rg; omega)), by (first | assumption | omega | (unfold rg; omega))⟩ ⟨by (first | assumption | omega | (unfold rg; omega)), by (first | assumption | omega | (unfold rg; omega))⟩ (by decide) dL_comes_215 (fun h215 => ?_) (fun h215 => ?_)
                        · skip
                          refine v_aload_n (pc := 222) C 6 rfl rfl dL_comes_222 ?_
                          refine v_iconst (pc := 223) C dL_comes_223 ?_
                          refine al_14 (pc := 224) C ⟨by (first | assumption | omega | (unfold rg; omega)), by (first | assumption | omega | (unfold rg; omega))⟩ dL_comes_224 (g 14 0 0 5) (by simp [up, hf14]) ?_
                          refine v_iconst (pc := 225) C dL_comes_225 ?_
                          refine v_isub (pc := 226) C dL_comes_226 ?_
                          refine v_goto (pc := 227) C 233 (by decide) dL_comes_227 ?_
                          refine v_istore (pc := 233) C [(6, .int (iI ((g 14 0 0 5) - 1))), (7, .int (iI (g 14 0 0 6))), (4, .int (iI (c + 1))), (12, .int (iI ((g 17 0 0 i) % 10))), (11, .int (iI 3)), (10, .int (iI (((g 17 0 0 i) / 10) % 10))), (9, .int (iI ((g 17 0 0 i) / 100))), (0, .ref (adr L 14 0 0)), (1, .ref (adr L 15 0 0)), (2, .ref (adr L 16 0 0)), (3, .ref (adr L 17 0 0)), (5, .int (iI 0)), (8, .int (iI i))] (by decide) rfl dL_comes_233 ?_
                          refine v_iinc (pc := 235) C 12 [(8, .int (iI (i + 1))), (6, .int (iI ((g 14 0 0 5) - 1))), (7, .int (iI (g 14 0 0 6))), (4, .int (iI (c + 1))), (12, .int (iI ((g 17 0 0 i) % 10))), (11, .int (iI 3)), (10, .int (iI (((g 17 0 0 i) / 10) % 10))), (9, .int (iI ((g 17 0 0 i) / 100))), (0, .ref (adr L 14 0 0)), (1, .ref (adr L 15 0 0)), (2, .ref (adr L 16 0 0)), (3, .ref (adr L 17 0 0)), (5, .int (iI 0))] rfl (by decide) rfl dL_comes_235 ?_
                          refine v_goto (pc := 238) C 20 (by decide) dL_comes_238 ?_
                          refine v_lsub [8, 9, 10, 11, 3, 12, 1, 2, 0] rfl ?_
                          exact ih20 (up (up h 15 0 0 ((6 * (((g 17 0 0 i) / 10) % 10)) + 3) ((h 15 0 0 ((6 * (((g 17 0 0 i) / 10) % 10)) + 3)) + 1)) 15 0 0 ((6 * (((g 17 0 0 i) / 10) % 10)) + 1) (((up h 15 0 0 ((6 * (((g 17 0 0 i) / 10) % 10)) + 3) ((h 15 0 0 ((6 * (((g 17 0 0 i) / 10) % 10)) + 3)) + 1)) 15 0 0 ((6 * (((g 17 0 0 i) / 10) % 10)) + 1)) + 1)) (i + 1) (c + 1) ((g 14 0 0 5) - 1) (g 14 0 0 6) (by omega) (by omega) (by first | omega | ((repeat' split) <;> omega)) (by omega) (by intro f hff; first | exact hf f hff | (rw [up_ff hff]; exact hf f hff) | (rw [up_ff hff, up_ff hff]; exact hf f hff)) (by intro p p0 p4; first | exact hpp p p0 p4 | (rw [up_i (by omega)]; exact hpp p p0 p4) | (rw [up_i (by omega), up_i (by omega)]; exact hpp p p0 p4)) (by intro j j0 j1; have hj := hct j j0 j1; first | omega | (simp only [up]; (repeat' split) <;> first | omega | (rename_i hx; first | (obtain ⟨-, -, -, rfl⟩ := hx; omega) | omega) | grind)) (by first | exact cm_no hi.1 (by omega) hfo (by omega) | exact cm_4 hi.1 (by omega) ⟨by omega, by omega⟩ hfo (by omega) (by omega) | exact cm_5 hi.1 (by omega) ⟨by omega, by omega⟩ hfo (by omega) (by omega) (by omega) | exact cm_3 hi.1 (by omega) ⟨by omega, by omega⟩ hfo (by omega) (by omega) (by omega) (by omega) | exact cm_c hi.1 (by omega) ⟨by omega, by omega⟩ hfo (by omega) (by omega) (by omega) (by omega) (by unfold fwS; (repeat' split) <;> omega) (by unfold fwR; (repeat' split) <;> omega)) (by first | exact (fun hx => ⟨i, hi.1, by omega, by omega, by omega⟩) | exact (fun hx => by obtain ⟨j, a, b, e1, e2⟩ := hcz hx; exact ⟨j, a, by omega, e1, e2⟩)) (by first | exact hc0 | exact (fun hx => absurd hx (by omega))) (by omega)
                        · skip
                          refine v_iconst (pc := 218) C dL_comes_218 ?_
                          refine v_goto (pc := 219) C 233 (by decide) dL_comes_219 ?_
                          refine v_istore (pc := 233) C [(6, .int (iI 1)), (7, .int (iI (g 14 0 0 6))), (4, .int (iI (c + 1))), (12, .int (iI ((g 17 0 0 i) % 10))), (11, .int (iI 3)), (10, .int (iI (((g 17 0 0 i) / 10) % 10))), (9, .int (iI ((g 17 0 0 i) / 100))), (0, .ref (adr L 14 0 0)), (1, .ref (adr L 15 0 0)), (2, .ref (adr L 16 0 0)), (3, .ref (adr L 17 0 0)), (5, .int (iI 0)), (8, .int (iI i))] (by decide) rfl dL_comes_233 ?_
                          refine v_iinc (pc := 235) C 12 [(8, .int (iI (i + 1))), (6, .int (iI 1)), (7, .int (iI (g 14 0 0 6))), (4, .int (iI (c + 1))), (12, .int (iI ((g 17 0 0 i) % 10))), (11, .int (iI 3)), (10, .int (iI (((g 17 0 0 i) / 10) % 10))), (9, .int (iI ((g 17 0 0 i) / 100))), (0, .ref (adr L 14 0 0)), (1, .ref (adr L 15 0 0)), (2, .ref (adr L 16 0 0)), (3, .ref (adr L 17 0 0)), (5, .int (iI 0))] rfl (by decide) rfl dL_comes_235 ?_
                          refine v_goto (pc := 238) C 20 (by decide) dL_comes_238 ?_
                          refine v_lsub [8, 9, 10, 11, 3, 12, 1, 2, 0] rfl ?_
                          exact ih20 (up (up h 15 0 0 ((6 * (((g 17 0 0 i) / 10) % 10)) + 3) ((h 15 0 0 ((6 * (((g 17 0 0 i) / 10) % 10)) + 3)) + 1)) 15 0 0 ((6 * (((g 17 0 0 i) / 10) % 10)) + 1) (((up h 15 0 0 ((6 * (((g 17 0 0 i) / 10) % 10)) + 3) ((h 15 0 0 ((6 * (((g 17 0 0 i) / 10) % 10)) + 3)) + 1)) 15 0 0 ((6 * (((g 17 0 0 i) / 10) % 10)) + 1)) + 1)) (i + 1) (c + 1) 1 (g 14 0 0 6) (by omega) (by omega) (by first | omega | ((repeat' split) <;> omega)) (by omega) (by intro f hff; first | exact hf f hff | (rw [up_ff hff]; exact hf f hff) | (rw [up_ff hff, up_ff hff]; exact hf f hff)) (by intro p p0 p4; first | exact hpp p p0 p4 | (rw [up_i (by omega)]; exact hpp p p0 p4) | (rw [up_i (by omega), up_i (by omega)]; exact hpp p p0 p4)) (by intro j j0 j1; have hj := hct j j0 j1; first | omega | (simp only [up]; (repeat' split) <;> first | omega | (rename_i hx; first | (obtain ⟨-, -, -, rfl⟩ := hx; omega) | omega) | grind)) (by first | exact cm_no hi.1 (by omega) hfo (by omega) | exact cm_4 hi.1 (by omega) ⟨by omega, by omega⟩ hfo (by omega) (by omega) | exact cm_5 hi.1 (by omega) ⟨by omega, by omega⟩ hfo (by omega) (by omega) (by omega) | exact cm_3 hi.1 (by omega) ⟨by omega, by omega⟩ hfo (by omega) (by omega) (by omega) (by omega) | exact cm_c hi.1 (by omega) ⟨by omega, by omega⟩ hfo (by omega) (by omega) (by omega) (by omega) (by unfold fwS; (repeat' split) <;> omega) (by unfold fwR; (repeat' split) <;> omega)) (by first | exact (fun hx => ⟨i, hi.1, by omega, by omega, by omega⟩) | exact (fun hx => by obtain ⟨j, a, b, e1, e2⟩ := hcz hx; exact ⟨j, a, by omega, e1, e2⟩)) (by first | exact hc0 | exact (fun hx => absurd hx (by omega))) (by omega)
                    · skip
                      refine v_aload_n (pc := 182) C 6 rfl rfl dL_comes_182 ?_
                      refine v_iconst (pc := 183) C dL_comes_183 ?_
                      refine al_14 (pc := 184) C ⟨by (first | assumption | omega | (unfold rg; omega)), by (first | assumption | omega | (unfold rg; omega))⟩ dL_comes_184 (g 14 0 0 5) (by simp [up, hf14]) ?_
                      refine v_bipush (pc := 185) C rfl dL_comes_185 ?_
                      refine v_icmp_ne (pc := 187) C 195 ⟨by (first | assumption | omega | (unfold rg; omega)), by (first | assumption | omega | (unfold rg; omega))⟩ ⟨by (first | assumption | omega | (unfold rg; omega)), by (first | assumption | omega | (unfold rg; omega))⟩ (by decide) dL_comes_187 (fun h187 => ?_) (fun h187 => ?_)
                      · skip
                        refine v_aload_n (pc := 195) C 6 rfl rfl dL_comes_195 ?_
                        refine v_iconst (pc := 196) C dL_comes_196 ?_
                        refine al_14 (pc := 197) C ⟨by (first | assumption | omega | (unfold rg; omega)), by (first | assumption | omega | (unfold rg; omega))⟩ dL_comes_197 (g 14 0 0 5) (by simp [up, hf14]) ?_
                        refine v_iconst (pc := 198) C dL_comes_198 ?_
                        refine v_iadd (pc := 199) C dL_comes_199 ?_
                        refine v_goto (pc := 200) C 233 (by decide) dL_comes_200 ?_
                        refine v_istore (pc := 233) C [(6, .int (iI ((g 14 0 0 5) + 1))), (7, .int (iI (g 14 0 0 6))), (4, .int (iI (c + 1))), (12, .int (iI ((g 17 0 0 i) % 10))), (11, .int (iI 3)), (10, .int (iI (((g 17 0 0 i) / 10) % 10))), (9, .int (iI ((g 17 0 0 i) / 100))), (0, .ref (adr L 14 0 0)), (1, .ref (adr L 15 0 0)), (2, .ref (adr L 16 0 0)), (3, .ref (adr L 17 0 0)), (5, .int (iI 0)), (8, .int (iI i))] (by decide) rfl dL_comes_233 ?_
                        refine v_iinc (pc := 235) C 12 [(8, .int (iI (i + 1))), (6, .int (iI ((g 14 0 0 5) + 1))), (7, .int (iI (g 14 0 0 6))), (4, .int (iI (c + 1))), (12, .int (iI ((g 17 0 0 i) % 10))), (11, .int (iI 3)), (10, .int (iI (((g 17 0 0 i) / 10) % 10))), (9, .int (iI ((g 17 0 0 i) / 100))), (0, .ref (adr L 14 0 0)), (1, .ref (adr L 15 0 0)), (2, .ref (adr L 16 0 0)), (3, .ref (adr L 17 0 0)), (5, .int (iI 0))] rfl (by decide) rfl dL_comes_235 ?_
                        refine v_goto (pc := 238) C 20 (by decide) dL_comes_238 ?_
                        refine v_lsub [8, 9, 10, 11, 3, 12, 1, 2, 0] rfl ?_
                        exact ih20 (up (up h 15 0 0 ((6 * (((g 17 0 0 i) / 10) % 10)) + 3) ((h 15 0 0 ((6 * (((g 17 0 0 i) / 10) % 10)) + 3)) + 1)) 15 0 0 ((6 * (((g 17 0 0 i) / 10) % 10)) + 1) (((up h 15 0 0 ((6 * (((g 17 0 0 i) / 10) % 10)) + 3) ((h 15 0 0 ((6 * (((g 17 0 0 i) / 10) % 10)) + 3)) + 1)) 15 0 0 ((6 * (((g 17 0 0 i) / 10) % 10)) + 1)) + 1)) (i + 1) (c + 1) ((g 14 0 0 5) + 1) (g 14 0 0 6) (by omega) (by omega) (by first | omega | ((repeat' split) <;> omega)) (by omega) (by intro f hff; first | exact hf f hff | (rw [up_ff hff]; exact hf f hff) | (rw [up_ff hff, up_ff hff]; exact hf f hff)) (by intro p p0 p4; first | exact hpp p p0 p4 | (rw [up_i (by omega)]; exact hpp p p0 p4) | (rw [up_i (by omega), up_i (by omega)]; exact hpp p p0 p4)) (by intro j j0 j1; have hj := hct j j0 j1; first | omega | (simp only [up]; (repeat' split) <;> first | omega | (rename_i hx; first | (obtain ⟨-, -, -, rfl⟩ := hx; omega) | omega) | grind)) (by first | exact cm_no hi.1 (by omega) hfo (by omega) | exact cm_4 hi.1 (by omega) ⟨by omega, by omega⟩ hfo (by omega) (by omega) | exact cm_5 hi.1 (by omega) ⟨by omega, by omega⟩ hfo (by omega) (by omega) (by omega) | exact cm_3 hi.1 (by omega) ⟨by omega, by omega⟩ hfo (by omega) (by omega) (by omega) (by omega) | exact cm_c hi.1 (by omega) ⟨by omega, by omega⟩ hfo (by omega) (by omega) (by omega) (by omega) (by unfold fwS; (repeat' split) <;> omega) (by unfold fwR; (repeat' split) <;> omega)) (by first | exact (fun hx => ⟨i, hi.1, by omega, by omega, by omega⟩) | exact (fun hx => by obtain ⟨j, a, b, e1, e2⟩ := hcz hx; exact ⟨j, a, by omega, e1, e2⟩)) (by first | exact hc0 | exact (fun hx => absurd hx (by omega))) (by omega)
                      · skip
                        refine v_bipush (pc := 190) C rfl dL_comes_190 ?_
                        refine v_goto (pc := 192) C 233 (by decide) dL_comes_192 ?_
                        refine v_istore (pc := 233) C [(6, .int (iI 9)), (7, .int (iI (g 14 0 0 6))), (4, .int (iI (c + 1))), (12, .int (iI ((g 17 0 0 i) % 10))), (11, .int (iI 3)), (10, .int (iI (((g 17 0 0 i) / 10) % 10))), (9, .int (iI ((g 17 0 0 i) / 100))), (0, .ref (adr L 14 0 0)), (1, .ref (adr L 15 0 0)), (2, .ref (adr L 16 0 0)), (3, .ref (adr L 17 0 0)), (5, .int (iI 0)), (8, .int (iI i))] (by decide) rfl dL_comes_233 ?_
                        refine v_iinc (pc := 235) C 12 [(8, .int (iI (i + 1))), (6, .int (iI 9)), (7, .int (iI (g 14 0 0 6))), (4, .int (iI (c + 1))), (12, .int (iI ((g 17 0 0 i) % 10))), (11, .int (iI 3)), (10, .int (iI (((g 17 0 0 i) / 10) % 10))), (9, .int (iI ((g 17 0 0 i) / 100))), (0, .ref (adr L 14 0 0)), (1, .ref (adr L 15 0 0)), (2, .ref (adr L 16 0 0)), (3, .ref (adr L 17 0 0)), (5, .int (iI 0))] rfl (by decide) rfl dL_comes_235 ?_
                        refine v_goto (pc := 238) C 20 (by decide) dL_comes_238 ?_
                        refine v_lsub [8, 9, 10, 11, 3, 12, 1, 2, 0] rfl ?_
                        exact ih20 (up (up h 15 0 0 ((6 * (((g 17 0 0 i) / 10) % 10)) + 3) ((h 15 0 0 ((6 * (((g 17 0 0 i) / 10) % 10)) + 3)) + 1)) 15 0 0 ((6 * (((g 17 0 0 i) / 10) % 10)) + 1) (((up h 15 0 0 ((6 * (((g 17 0 0 i) / 10) % 10)) + 3) ((h 15 0 0 ((6 * (((g 17 0 0 i) / 10) % 10)) + 3)) + 1)) 15 0 0 ((6 * (((g 17 0 0 i) / 10) % 10)) + 1)) + 1)) (i + 1) (c + 1) 9 (g 14 0 0 6) (by omega) (by omega) (by first | omega | ((repeat' split) <;> omega)) (by omega) (by intro f hff; first | exact hf f hff | (rw [up_ff hff]; exact hf f hff) | (rw [up_ff hff, up_ff hff]; exact hf f hff)) (by intro p p0 p4; first | exact hpp p p0 p4 | (rw [up_i (by omega)]; exact hpp p p0 p4) | (rw [up_i (by omega), up_i (by omega)]; exact hpp p p0 p4)) (by intro j j0 j1; have hj := hct j j0 j1; first | omega | (simp only [up]; (repeat' split) <;> first | omega | (rename_i hx; first | (obtain ⟨-, -, -, rfl⟩ := hx; omega) | omega) | grind)) (by first | exact cm_no hi.1 (by omega) hfo (by omega) | exact cm_4 hi.1 (by omega) ⟨by omega, by omega⟩ hfo (by omega) (by omega) | exact cm_5 hi.1 (by omega) ⟨by omega, by omega⟩ hfo (by omega) (by omega) (by omega) | exact cm_3 hi.1 (by omega) ⟨by omega, by omega⟩ hfo (by omega) (by omega) (by omega) (by omega) | exact cm_c hi.1 (by omega) ⟨by omega, by omega⟩ hfo (by omega) (by omega) (by omega) (by omega) (by unfold fwS; (repeat' split) <;> omega) (by unfold fwR; (repeat' split) <;> omega)) (by first | exact (fun hx => ⟨i, hi.1, by omega, by omega, by omega⟩) | exact (fun hx => by obtain ⟨j, a, b, e1, e2⟩ := hcz hx; exact ⟨j, a, by omega, e1, e2⟩)) (by first | exact hc0 | exact (fun hx => absurd hx (by omega))) (by omega)
                  · skip
                    refine v_aload_n (pc := 160) C 5 rfl rfl dL_comes_160 ?_
                    refine v_bipush (pc := 161) C rfl dL_comes_161 ?_
                    refine al_14 (pc := 163) C ⟨by (first | assumption | omega | (unfold rg; omega)), by (first | assumption | omega | (unfold rg; omega))⟩ dL_comes_163 (g 14 0 0 6) (by simp [up, hf14]) ?_
                    refine v_ineg (pc := 164) C dL_comes_164 ?_
                    refine v_goto (pc := 165) C 172 (by decide) dL_comes_165 ?_
                    refine v_istore (pc := 172) C [(7, .int (iI (-(g 14 0 0 6)))), (4, .int (iI (c + 1))), (12, .int (iI ((g 17 0 0 i) % 10))), (11, .int (iI 3)), (10, .int (iI (((g 17 0 0 i) / 10) % 10))), (9, .int (iI ((g 17 0 0 i) / 100))), (0, .ref (adr L 14 0 0)), (1, .ref (adr L 15 0 0)), (2, .ref (adr L 16 0 0)), (3, .ref (adr L 17 0 0)), (5, .int (iI 0)), (6, .int (iI s)), (8, .int (iI i))] (by decide) rfl dL_comes_172 ?_
                    refine v_iload (pc := 174) C 2 rfl dL_comes_174 ?_
                    refine v_iconst (pc := 176) C dL_comes_176 ?_
                    refine v_irem (pc := 177) C (⟨⟨by (first | assumption | omega | (unfold rg; omega)), by (first | assumption | omega | (unfold rg; omega))⟩, ⟨by (first | assumption | omega | (unfold rg; omega)), by (first | assumption | omega | (unfold rg; omega))⟩, by (first | assumption | omega | (unfold rg; omega)), by (first | assumption | omega | (unfold rg; omega))⟩) dL_comes_177 ?_
                    refine v_iconst (pc := 178) C dL_comes_178 ?_
                    refine v_icmp_ne (pc := 179) C 203 ⟨by (first | assumption | omega | (unfold rg; omega)), by (first | assumption | omega | (unfold rg; omega))⟩ ⟨by (first | assumption | omega | (unfold rg; omega)), by (first | assumption | omega | (unfold rg; omega))⟩ (by decide) dL_comes_179 (fun h179 => ?_) (fun h179 => ?_)
                    · skip
                      refine v_iload (pc := 203) C 2 rfl dL_comes_203 ?_
                      refine v_iconst (pc := 205) C dL_comes_205 ?_
                      refine v_irem (pc := 206) C (⟨⟨by (first | assumption | omega | (unfold rg; omega)), by (first | assumption | omega | (unfold rg; omega))⟩, ⟨by (first | assumption | omega | (unfold rg; omega)), by (first | assumption | omega | (unfold rg; omega))⟩, by (first | assumption | omega | (unfold rg; omega)), by (first | assumption | omega | (unfold rg; omega))⟩) dL_comes_206 ?_
                      refine v_iconst (pc := 207) C dL_comes_207 ?_
                      refine v_icmp_ne (pc := 208) C 230 ⟨by (first | assumption | omega | (unfold rg; omega)), by (first | assumption | omega | (unfold rg; omega))⟩ ⟨by (first | assumption | omega | (unfold rg; omega)), by (first | assumption | omega | (unfold rg; omega))⟩ (by decide) dL_comes_208 (fun h208 => ?_) (fun h208 => ?_)
                      · skip
                        refine v_aload_n (pc := 230) C 6 rfl rfl dL_comes_230 ?_
                        refine v_iconst (pc := 231) C dL_comes_231 ?_
                        refine al_14 (pc := 232) C ⟨by (first | assumption | omega | (unfold rg; omega)), by (first | assumption | omega | (unfold rg; omega))⟩ dL_comes_232 (g 14 0 0 5) (by simp [up, hf14]) ?_
                        refine v_istore (pc := 233) C [(6, .int (iI (g 14 0 0 5))), (7, .int (iI (-(g 14 0 0 6)))), (4, .int (iI (c + 1))), (12, .int (iI ((g 17 0 0 i) % 10))), (11, .int (iI 3)), (10, .int (iI (((g 17 0 0 i) / 10) % 10))), (9, .int (iI ((g 17 0 0 i) / 100))), (0, .ref (adr L 14 0 0)), (1, .ref (adr L 15 0 0)), (2, .ref (adr L 16 0 0)), (3, .ref (adr L 17 0 0)), (5, .int (iI 0)), (8, .int (iI i))] (by decide) rfl dL_comes_233 ?_
                        refine v_iinc (pc := 235) C 12 [(8, .int (iI (i + 1))), (6, .int (iI (g 14 0 0 5))), (7, .int (iI (-(g 14 0 0 6)))), (4, .int (iI (c + 1))), (12, .int (iI ((g 17 0 0 i) % 10))), (11, .int (iI 3)), (10, .int (iI (((g 17 0 0 i) / 10) % 10))), (9, .int (iI ((g 17 0 0 i) / 100))), (0, .ref (adr L 14 0 0)), (1, .ref (adr L 15 0 0)), (2, .ref (adr L 16 0 0)), (3, .ref (adr L 17 0 0)), (5, .int (iI 0))] rfl (by decide) rfl dL_comes_235 ?_
                        refine v_goto (pc := 238) C 20 (by decide) dL_comes_238 ?_
                        refine v_lsub [8, 9, 10, 11, 3, 12, 1, 2, 0] rfl ?_
                        exact ih20 (up (up h 15 0 0 ((6 * (((g 17 0 0 i) / 10) % 10)) + 3) ((h 15 0 0 ((6 * (((g 17 0 0 i) / 10) % 10)) + 3)) + 1)) 15 0 0 ((6 * (((g 17 0 0 i) / 10) % 10)) + 1) (((up h 15 0 0 ((6 * (((g 17 0 0 i) / 10) % 10)) + 3) ((h 15 0 0 ((6 * (((g 17 0 0 i) / 10) % 10)) + 3)) + 1)) 15 0 0 ((6 * (((g 17 0 0 i) / 10) % 10)) + 1)) + 1)) (i + 1) (c + 1) (g 14 0 0 5) (-(g 14 0 0 6)) (by omega) (by omega) (by first | omega | ((repeat' split) <;> omega)) (by omega) (by intro f hff; first | exact hf f hff | (rw [up_ff hff]; exact hf f hff) | (rw [up_ff hff, up_ff hff]; exact hf f hff)) (by intro p p0 p4; first | exact hpp p p0 p4 | (rw [up_i (by omega)]; exact hpp p p0 p4) | (rw [up_i (by omega), up_i (by omega)]; exact hpp p p0 p4)) (by intro j j0 j1; have hj := hct j j0 j1; first | omega | (simp only [up]; (repeat' split) <;> first | omega | (rename_i hx; first | (obtain ⟨-, -, -, rfl⟩ := hx; omega) | omega) | grind)) (by first | exact cm_no hi.1 (by omega) hfo (by omega) | exact cm_4 hi.1 (by omega) ⟨by omega, by omega⟩ hfo (by omega) (by omega) | exact cm_5 hi.1 (by omega) ⟨by omega, by omega⟩ hfo (by omega) (by omega) (by omega) | exact cm_3 hi.1 (by omega) ⟨by omega, by omega⟩ hfo (by omega) (by omega) (by omega) (by omega) | exact cm_c hi.1 (by omega) ⟨by omega, by omega⟩ hfo (by omega) (by omega) (by omega) (by omega) (by unfold fwS; (repeat' split) <;> omega) (by unfold fwR; (repeat' split) <;> omega)) (by first | exact (fun hx => ⟨i, hi.1, by omega, by omega, by omega⟩) | exact (fun hx => by obtain ⟨j, a, b, e1, e2⟩ := hcz hx; exact ⟨j, a, by omega, e1, e2⟩)) (by first | exact hc0 | exact (fun hx => absurd hx (by omega))) (by omega)
                      · skip
                        refine v_aload_n (pc := 211) C 6 rfl rfl dL_comes_211 ?_
                        refine v_iconst (pc := 212) C dL_comes_212 ?_
                        refine al_14 (pc := 213) C ⟨by (first | assumption | omega | (unfold rg; omega)), by (first | assumption | omega | (unfold rg; omega))⟩ dL_comes_213 (g 14 0 0 5) (by simp [up, hf14]) ?_
                        refine v_iconst (pc := 214) C dL_comes_214 ?_
                        refine v_icmp_ne (pc := 215) C 222 ⟨by (first | assumption | omega | (unfold rg; omega)), by (first | assumption | omega | (unfold rg; omega))⟩ ⟨by (first | assumption | omega | (unfold rg; omega)), by (first | assumption | omega | (unfold rg; omega))⟩ (by decide) dL_comes_215 (fun h215 => ?_) (fun h215 => ?_)
                        · skip
                          refine v_aload_n (pc := 222) C 6 rfl rfl dL_comes_222 ?_
                          refine v_iconst (pc := 223) C dL_comes_223 ?_
                          refine al_14 (pc := 224) C ⟨by (first | assumption | omega | (unfold rg; omega)), by (first | assumption | omega | (unfold rg; omega))⟩ dL_comes_224 (g 14 0 0 5) (by simp [up, hf14]) ?_
                          refine v_iconst (pc := 225) C dL_comes_225 ?_
                          refine v_isub (pc := 226) C dL_comes_226 ?_
                          refine v_goto (pc := 227) C 233 (by decide) dL_comes_227 ?_
                          refine v_istore (pc := 233) C [(6, .int (iI ((g 14 0 0 5) - 1))), (7, .int (iI (-(g 14 0 0 6)))), (4, .int (iI (c + 1))), (12, .int (iI ((g 17 0 0 i) % 10))), (11, .int (iI 3)), (10, .int (iI (((g 17 0 0 i) / 10) % 10))), (9, .int (iI ((g 17 0 0 i) / 100))), (0, .ref (adr L 14 0 0)), (1, .ref (adr L 15 0 0)), (2, .ref (adr L 16 0 0)), (3, .ref (adr L 17 0 0)), (5, .int (iI 0)), (8, .int (iI i))] (by decide) rfl dL_comes_233 ?_
                          refine v_iinc (pc := 235) C 12 [(8, .int (iI (i + 1))), (6, .int (iI ((g 14 0 0 5) - 1))), (7, .int (iI (-(g 14 0 0 6)))), (4, .int (iI (c + 1))), (12, .int (iI ((g 17 0 0 i) % 10))), (11, .int (iI 3)), (10, .int (iI (((g 17 0 0 i) / 10) % 10))), (9, .int (iI ((g 17 0 0 i) / 100))), (0, .ref (adr L 14 0 0)), (1, .ref (adr L 15 0 0)), (2, .ref (adr L 16 0 0)), (3, .ref (adr L 17 0 0)), (5, .int (iI 0))] rfl (by decide) rfl dL_comes_235 ?_
                          refine v_goto (pc := 238) C 20 (by decide) dL_comes_238 ?_
                          refine v_lsub [8, 9, 10, 11, 3, 12, 1, 2, 0] rfl ?_
                          exact ih20 (up (up h 15 0 0 ((6 * (((g 17 0 0 i) / 10) % 10)) + 3) ((h 15 0 0 ((6 * (((g 17 0 0 i) / 10) % 10)) + 3)) + 1)) 15 0 0 ((6 * (((g 17 0 0 i) / 10) % 10)) + 1) (((up h 15 0 0 ((6 * (((g 17 0 0 i) / 10) % 10)) + 3) ((h 15 0 0 ((6 * (((g 17 0 0 i) / 10) % 10)) + 3)) + 1)) 15 0 0 ((6 * (((g 17 0 0 i) / 10) % 10)) + 1)) + 1)) (i + 1) (c + 1) ((g 14 0 0 5) - 1) (-(g 14 0 0 6)) (by omega) (by omega) (by first | omega | ((repeat' split) <;> omega)) (by omega) (by intro f hff; first | exact hf f hff | (rw [up_ff hff]; exact hf f hff) | (rw [up_ff hff, up_ff hff]; exact hf f hff)) (by intro p p0 p4; first | exact hpp p p0 p4 | (rw [up_i (by omega)]; exact hpp p p0 p4) | (rw [up_i (by omega), up_i (by omega)]; exact hpp p p0 p4)) (by intro j j0 j1; have hj := hct j j0 j1; first | omega | (simp only [up]; (repeat' split) <;> first | omega | (rename_i hx; first | (obtain ⟨-, -, -, rfl⟩ := hx; omega) | omega) | grind)) (by first | exact cm_no hi.1 (by omega) hfo (by omega) | exact cm_4 hi.1 (by omega) ⟨by omega, by omega⟩ hfo (by omega) (by omega) | exact cm_5 hi.1 (by omega) ⟨by omega, by omega⟩ hfo (by omega) (by omega) (by omega) | exact cm_3 hi.1 (by omega) ⟨by omega, by omega⟩ hfo (by omega) (by omega) (by omega) (by omega) | exact cm_c hi.1 (by omega) ⟨by omega, by omega⟩ hfo (by omega) (by omega) (by omega) (by omega) (by unfold fwS; (repeat' split) <;> omega) (by unfold fwR; (repeat' split) <;> omega)) (by first | exact (fun hx => ⟨i, hi.1, by omega, by omega, by omega⟩) | exact (fun hx => by obtain ⟨j, a, b, e1, e2⟩ := hcz hx; exact ⟨j, a, by omega, e1, e2⟩)) (by first | exact hc0 | exact (fun hx => absurd hx (by omega))) (by omega)
                        · skip
                          refine v_iconst (pc := 218) C dL_comes_218 ?_
                          refine v_goto (pc := 219) C 233 (by decide) dL_comes_219 ?_
                          refine v_istore (pc := 233) C [(6, .int (iI 1)), (7, .int (iI (-(g 14 0 0 6)))), (4, .int (iI (c + 1))), (12, .int (iI ((g 17 0 0 i) % 10))), (11, .int (iI 3)), (10, .int (iI (((g 17 0 0 i) / 10) % 10))), (9, .int (iI ((g 17 0 0 i) / 100))), (0, .ref (adr L 14 0 0)), (1, .ref (adr L 15 0 0)), (2, .ref (adr L 16 0 0)), (3, .ref (adr L 17 0 0)), (5, .int (iI 0)), (8, .int (iI i))] (by decide) rfl dL_comes_233 ?_
                          refine v_iinc (pc := 235) C 12 [(8, .int (iI (i + 1))), (6, .int (iI 1)), (7, .int (iI (-(g 14 0 0 6)))), (4, .int (iI (c + 1))), (12, .int (iI ((g 17 0 0 i) % 10))), (11, .int (iI 3)), (10, .int (iI (((g 17 0 0 i) / 10) % 10))), (9, .int (iI ((g 17 0 0 i) / 100))), (0, .ref (adr L 14 0 0)), (1, .ref (adr L 15 0 0)), (2, .ref (adr L 16 0 0)), (3, .ref (adr L 17 0 0)), (5, .int (iI 0))] rfl (by decide) rfl dL_comes_235 ?_
                          refine v_goto (pc := 238) C 20 (by decide) dL_comes_238 ?_
                          refine v_lsub [8, 9, 10, 11, 3, 12, 1, 2, 0] rfl ?_
                          exact ih20 (up (up h 15 0 0 ((6 * (((g 17 0 0 i) / 10) % 10)) + 3) ((h 15 0 0 ((6 * (((g 17 0 0 i) / 10) % 10)) + 3)) + 1)) 15 0 0 ((6 * (((g 17 0 0 i) / 10) % 10)) + 1) (((up h 15 0 0 ((6 * (((g 17 0 0 i) / 10) % 10)) + 3) ((h 15 0 0 ((6 * (((g 17 0 0 i) / 10) % 10)) + 3)) + 1)) 15 0 0 ((6 * (((g 17 0 0 i) / 10) % 10)) + 1)) + 1)) (i + 1) (c + 1) 1 (-(g 14 0 0 6)) (by omega) (by omega) (by first | omega | ((repeat' split) <;> omega)) (by omega) (by intro f hff; first | exact hf f hff | (rw [up_ff hff]; exact hf f hff) | (rw [up_ff hff, up_ff hff]; exact hf f hff)) (by intro p p0 p4; first | exact hpp p p0 p4 | (rw [up_i (by omega)]; exact hpp p p0 p4) | (rw [up_i (by omega), up_i (by omega)]; exact hpp p p0 p4)) (by intro j j0 j1; have hj := hct j j0 j1; first | omega | (simp only [up]; (repeat' split) <;> first | omega | (rename_i hx; first | (obtain ⟨-, -, -, rfl⟩ := hx; omega) | omega) | grind)) (by first | exact cm_no hi.1 (by omega) hfo (by omega) | exact cm_4 hi.1 (by omega) ⟨by omega, by omega⟩ hfo (by omega) (by omega) | exact cm_5 hi.1 (by omega) ⟨by omega, by omega⟩ hfo (by omega) (by omega) (by omega) | exact cm_3 hi.1 (by omega) ⟨by omega, by omega⟩ hfo (by omega) (by omega) (by omega) (by omega) | exact cm_c hi.1 (by omega) ⟨by omega, by omega⟩ hfo (by omega) (by omega) (by omega) (by omega) (by unfold fwS; (repeat' split) <;> omega) (by unfold fwR; (repeat' split) <;> omega)) (by first | exact (fun hx => ⟨i, hi.1, by omega, by omega, by omega⟩) | exact (fun hx => by obtain ⟨j, a, b, e1, e2⟩ := hcz hx; exact ⟨j, a, by omega, e1, e2⟩)) (by first | exact hc0 | exact (fun hx => absurd hx (by omega))) (by omega)
                    · skip
                      refine v_aload_n (pc := 182) C 6 rfl rfl dL_comes_182 ?_
                      refine v_iconst (pc := 183) C dL_comes_183 ?_
                      refine al_14 (pc := 184) C ⟨by (first | assumption | omega | (unfold rg; omega)), by (first | assumption | omega | (unfold rg; omega))⟩ dL_comes_184 (g 14 0 0 5) (by simp [up, hf14]) ?_
                      refine v_bipush (pc := 185) C rfl dL_comes_185 ?_
                      refine v_icmp_ne (pc := 187) C 195 ⟨by (first | assumption | omega | (unfold rg; omega)), by (first | assumption | omega | (unfold rg; omega))⟩ ⟨by (first | assumption | omega | (unfold rg; omega)), by (first | assumption | omega | (unfold rg; omega))⟩ (by decide) dL_comes_187 (fun h187 => ?_) (fun h187 => ?_)
                      · skip
                        refine v_aload_n (pc := 195) C 6 rfl rfl dL_comes_195 ?_
                        refine v_iconst (pc := 196) C dL_comes_196 ?_
                        refine al_14 (pc := 197) C ⟨by (first | assumption | omega | (unfold rg; omega)), by (first | assumption | omega | (unfold rg; omega))⟩ dL_comes_197 (g 14 0 0 5) (by simp [up, hf14]) ?_
                        refine v_iconst (pc := 198) C dL_comes_198 ?_
                        refine v_iadd (pc := 199) C dL_comes_199 ?_
                        refine v_goto (pc := 200) C 233 (by decide) dL_comes_200 ?_
                        refine v_istore (pc := 233) C [(6, .int (iI ((g 14 0 0 5) + 1))), (7, .int (iI (-(g 14 0 0 6)))), (4, .int (iI (c + 1))), (12, .int (iI ((g 17 0 0 i) % 10))), (11, .int (iI 3)), (10, .int (iI (((g 17 0 0 i) / 10) % 10))), (9, .int (iI ((g 17 0 0 i) / 100))), (0, .ref (adr L 14 0 0)), (1, .ref (adr L 15 0 0)), (2, .ref (adr L 16 0 0)), (3, .ref (adr L 17 0 0)), (5, .int (iI 0)), (8, .int (iI i))] (by decide) rfl dL_comes_233 ?_
                        refine v_iinc (pc := 235) C 12 [(8, .int (iI (i + 1))), (6, .int (iI ((g 14 0 0 5) + 1))), (7, .int (iI (-(g 14 0 0 6)))), (4, .int (iI (c + 1))), (12, .int (iI ((g 17 0 0 i) % 10))), (11, .int (iI 3)), (10, .int (iI (((g 17 0 0 i) / 10) % 10))), (9, .int (iI ((g 17 0 0 i) / 100))), (0, .ref (adr L 14 0 0)), (1, .ref (adr L 15 0 0)), (2, .ref (adr L 16 0 0)), (3, .ref (adr L 17 0 0)), (5, .int (iI 0))] rfl (by decide) rfl dL_comes_235 ?_
                        refine v_goto (pc := 238) C 20 (by decide) dL_comes_238 ?_
                        refine v_lsub [8, 9, 10, 11, 3, 12, 1, 2, 0] rfl ?_
                        exact ih20 (up (up h 15 0 0 ((6 * (((g 17 0 0 i) / 10) % 10)) + 3) ((h 15 0 0 ((6 * (((g 17 0 0 i) / 10) % 10)) + 3)) + 1)) 15 0 0 ((6 * (((g 17 0 0 i) / 10) % 10)) + 1) (((up h 15 0 0 ((6 * (((g 17 0 0 i) / 10) % 10)) + 3) ((h 15 0 0 ((6 * (((g 17 0 0 i) / 10) % 10)) + 3)) + 1)) 15 0 0 ((6 * (((g 17 0 0 i) / 10) % 10)) + 1)) + 1)) (i + 1) (c + 1) ((g 14 0 0 5) + 1) (-(g 14 0 0 6)) (by omega) (by omega) (by first | omega | ((repeat' split) <;> omega)) (by omega) (by intro f hff; first | exact hf f hff | (rw [up_ff hff]; exact hf f hff) | (rw [up_ff hff, up_ff hff]; exact hf f hff)) (by intro p p0 p4; first | exact hpp p p0 p4 | (rw [up_i (by omega)]; exact hpp p p0 p4) | (rw [up_i (by omega), up_i (by omega)]; exact hpp p p0 p4)) (by intro j j0 j1; have hj := hct j j0 j1; first | omega | (simp only [up]; (repeat' split) <;> first | omega | (rename_i hx; first | (obtain ⟨-, -, -, rfl⟩ := hx; omega) | omega) | grind)) (by first | exact cm_no hi.1 (by omega) hfo (by omega) | exact cm_4 hi.1 (by omega) ⟨by omega, by omega⟩ hfo (by omega) (by omega) | exact cm_5 hi.1 (by omega) ⟨by omega, by omega⟩ hfo (by omega) (by omega) (by omega) | exact cm_3 hi.1 (by omega) ⟨by omega, by omega⟩ hfo (by omega) (by omega) (by omega) (by omega) | exact cm_c hi.1 (by omega) ⟨by omega, by omega⟩ hfo (by omega) (by omega) (by omega) (by omega) (by unfold fwS; (repeat' split) <;> omega) (by unfold fwR; (repeat' split) <;> omega)) (by first | exact (fun hx => ⟨i, hi.1, by omega, by omega, by omega⟩) | exact (fun hx => by obtain ⟨j, a, b, e1, e2⟩ := hcz hx; exact ⟨j, a, by omega, e1, e2⟩)) (by first | exact hc0 | exact (fun hx => absurd hx (by omega))) (by omega)
                      · skip
                        refine v_bipush (pc := 190) C rfl dL_comes_190 ?_
                        refine v_goto (pc := 192) C 233 (by decide) dL_comes_192 ?_
                        refine v_istore (pc := 233) C [(6, .int (iI 9)), (7, .int (iI (-(g 14 0 0 6)))), (4, .int (iI (c + 1))), (12, .int (iI ((g 17 0 0 i) % 10))), (11, .int (iI 3)), (10, .int (iI (((g 17 0 0 i) / 10) % 10))), (9, .int (iI ((g 17 0 0 i) / 100))), (0, .ref (adr L 14 0 0)), (1, .ref (adr L 15 0 0)), (2, .ref (adr L 16 0 0)), (3, .ref (adr L 17 0 0)), (5, .int (iI 0)), (8, .int (iI i))] (by decide) rfl dL_comes_233 ?_
                        refine v_iinc (pc := 235) C 12 [(8, .int (iI (i + 1))), (6, .int (iI 9)), (7, .int (iI (-(g 14 0 0 6)))), (4, .int (iI (c + 1))), (12, .int (iI ((g 17 0 0 i) % 10))), (11, .int (iI 3)), (10, .int (iI (((g 17 0 0 i) / 10) % 10))), (9, .int (iI ((g 17 0 0 i) / 100))), (0, .ref (adr L 14 0 0)), (1, .ref (adr L 15 0 0)), (2, .ref (adr L 16 0 0)), (3, .ref (adr L 17 0 0)), (5, .int (iI 0))] rfl (by decide) rfl dL_comes_235 ?_
                        refine v_goto (pc := 238) C 20 (by decide) dL_comes_238 ?_
                        refine v_lsub [8, 9, 10, 11, 3, 12, 1, 2, 0] rfl ?_
                        exact ih20 (up (up h 15 0 0 ((6 * (((g 17 0 0 i) / 10) % 10)) + 3) ((h 15 0 0 ((6 * (((g 17 0 0 i) / 10) % 10)) + 3)) + 1)) 15 0 0 ((6 * (((g 17 0 0 i) / 10) % 10)) + 1) (((up h 15 0 0 ((6 * (((g 17 0 0 i) / 10) % 10)) + 3) ((h 15 0 0 ((6 * (((g 17 0 0 i) / 10) % 10)) + 3)) + 1)) 15 0 0 ((6 * (((g 17 0 0 i) / 10) % 10)) + 1)) + 1)) (i + 1) (c + 1) 9 (-(g 14 0 0 6)) (by omega) (by omega) (by first | omega | ((repeat' split) <;> omega)) (by omega) (by intro f hff; first | exact hf f hff | (rw [up_ff hff]; exact hf f hff) | (rw [up_ff hff, up_ff hff]; exact hf f hff)) (by intro p p0 p4; first | exact hpp p p0 p4 | (rw [up_i (by omega)]; exact hpp p p0 p4) | (rw [up_i (by omega), up_i (by omega)]; exact hpp p p0 p4)) (by intro j j0 j1; have hj := hct j j0 j1; first | omega | (simp only [up]; (repeat' split) <;> first | omega | (rename_i hx; first | (obtain ⟨-, -, -, rfl⟩ := hx; omega) | omega) | grind)) (by first | exact cm_no hi.1 (by omega) hfo (by omega) | exact cm_4 hi.1 (by omega) ⟨by omega, by omega⟩ hfo (by omega) (by omega) | exact cm_5 hi.1 (by omega) ⟨by omega, by omega⟩ hfo (by omega) (by omega) (by omega) | exact cm_3 hi.1 (by omega) ⟨by omega, by omega⟩ hfo (by omega) (by omega) (by omega) (by omega) | exact cm_c hi.1 (by omega) ⟨by omega, by omega⟩ hfo (by omega) (by omega) (by omega) (by omega) (by unfold fwS; (repeat' split) <;> omega) (by unfold fwR; (repeat' split) <;> omega)) (by first | exact (fun hx => ⟨i, hi.1, by omega, by omega, by omega⟩) | exact (fun hx => by obtain ⟨j, a, b, e1, e2⟩ := hcz hx; exact ⟨j, a, by omega, e1, e2⟩)) (by first | exact hc0 | exact (fun hx => absurd hx (by omega))) (by omega)
          · skip
            refine v_iconst (pc := 77) C dL_comes_77 ?_
            refine v_goto (pc := 78) C 98 (by decide) dL_comes_78 ?_
            refine v_istore (pc := 98) C [(11, .int (iI 4)), (10, .int (iI (((g 17 0 0 i) / 10) % 10))), (9, .int (iI ((g 17 0 0 i) / 100))), (0, .ref (adr L 14 0 0)), (1, .ref (adr L 15 0 0)), (2, .ref (adr L 16 0 0)), (3, .ref (adr L 17 0 0)), (4, .int (iI c)), (5, .int (iI 0)), (6, .int (iI s)), (7, .int (iI r)), (8, .int (iI i))] (by decide) rfl dL_comes_98 ?_
            refine v_aload_n (pc := 100) C 4 rfl rfl dL_comes_100 ?_
            refine v_bipush (pc := 101) C rfl dL_comes_101 ?_
            refine v_iload (pc := 103) C 1 rfl dL_comes_103 ?_
            refine v_imul (pc := 105) C dL_comes_105 ?_
            refine v_iload (pc := 106) C 0 rfl dL_comes_106 ?_
            refine v_iadd (pc := 108) C dL_comes_108 ?_
            refine v_dup2 (pc := 109) C rfl rfl dL_comes_109 ?_
            refine al_15 (pc := 110) C ⟨by (first | assumption | omega | (unfold rg; omega)), by (first | assumption | omega | (unfold rg; omega))⟩ dL_comes_110 (h 15 0 0 ((6 * (((g 17 0 0 i) / 10) % 10)) + 4)) (rfl) ?_
            refine v_iconst (pc := 111) C dL_comes_111 ?_
            refine v_iadd (pc := 112) C dL_comes_112 ?_
            refine as_15 (pc := 113) C ⟨by (first | assumption | omega | (unfold rg; omega)), by (first | assumption | omega | (unfold rg; omega))⟩ dL_comes_113 ?_
            refine v_iload (pc := 114) C 0 rfl dL_comes_114 ?_
            refine v_iconst (pc := 116) C dL_comes_116 ?_
            refine v_icmp_ne (pc := 117) C 235 ⟨by (first | assumption | omega | (unfold rg; omega)), by (first | assumption | omega | (unfold rg; omega))⟩ ⟨by (first | assumption | omega | (unfold rg; omega)), by (first | assumption | omega | (unfold rg; omega))⟩ (by decide) dL_comes_117 (fun h117 => ?_) (fun h117 => ?_)
            · skip
              refine v_iinc (pc := 235) C 11 [(8, .int (iI (i + 1))), (11, .int (iI 4)), (10, .int (iI (((g 17 0 0 i) / 10) % 10))), (9, .int (iI ((g 17 0 0 i) / 100))), (0, .ref (adr L 14 0 0)), (1, .ref (adr L 15 0 0)), (2, .ref (adr L 16 0 0)), (3, .ref (adr L 17 0 0)), (4, .int (iI c)), (5, .int (iI 0)), (6, .int (iI s)), (7, .int (iI r))] rfl (by decide) rfl dL_comes_235 ?_
              refine v_goto (pc := 238) C 20 (by decide) dL_comes_238 ?_
              refine v_lsub [4, 5, 6, 7, 8, 9, 10, 11, 0] rfl ?_
              exact ih20 (up h 15 0 0 ((6 * (((g 17 0 0 i) / 10) % 10)) + 4) ((h 15 0 0 ((6 * (((g 17 0 0 i) / 10) % 10)) + 4)) + 1)) (i + 1) c s r (by omega) (by omega) (by first | omega | ((repeat' split) <;> omega)) (by omega) (by intro f hff; first | exact hf f hff | (rw [up_ff hff]; exact hf f hff) | (rw [up_ff hff, up_ff hff]; exact hf f hff)) (by intro p p0 p4; first | exact hpp p p0 p4 | (rw [up_i (by omega)]; exact hpp p p0 p4) | (rw [up_i (by omega), up_i (by omega)]; exact hpp p p0 p4)) (by intro j j0 j1; have hj := hct j j0 j1; first | omega | (simp only [up]; (repeat' split) <;> first | omega | (rename_i hx; first | (obtain ⟨-, -, -, rfl⟩ := hx; omega) | omega) | grind)) (by first | exact cm_no hi.1 (by omega) hfo (by omega) | exact cm_4 hi.1 (by omega) ⟨by omega, by omega⟩ hfo (by omega) (by omega) | exact cm_5 hi.1 (by omega) ⟨by omega, by omega⟩ hfo (by omega) (by omega) (by omega) | exact cm_3 hi.1 (by omega) ⟨by omega, by omega⟩ hfo (by omega) (by omega) (by omega) (by omega) | exact cm_c hi.1 (by omega) ⟨by omega, by omega⟩ hfo (by omega) (by omega) (by omega) (by omega) (by unfold fwS; (repeat' split) <;> omega) (by unfold fwR; (repeat' split) <;> omega)) (by first | exact (fun hx => ⟨i, hi.1, by omega, by omega, by omega⟩) | exact (fun hx => by obtain ⟨j, a, b, e1, e2⟩ := hcz hx; exact ⟨j, a, by omega, e1, e2⟩)) (by first | exact hc0 | exact (fun hx => absurd hx (by omega))) (by omega)
            · skip
              exfalso; omega
  refine v_lsub [5, 6, 7, 8, 4, 3, 2, 1, 0] rfl ?_
  exact lb20 _ g 0 0 (g 14 0 0 5) (g 14 0 0 6) (by omega) (by omega) (by omega) (by exact q6) (by exact fun _ _ => rfl) (by exact fun _ _ _ => rfl) (by exact fun j a b => ⟨Int.le_refl _, by omega⟩) (by rfl) (by exact fun hx => absurd hx (by decide)) (by exact fun _ => ⟨rfl, rfl⟩) (Nat.lt_succ_self _)
