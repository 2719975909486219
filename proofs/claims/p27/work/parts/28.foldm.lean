/-! the reference's turn as a fold -/
def mev (g : St) (i : Int) : E5 := (g 15 0 0 (34 + 5 * i + 0), g 15 0 0 (34 + 5 * i + 1), g 15 0 0 (34 + 5 * i + 2), g 15 0 0 (34 + 5 * i + 3), g 15 0 0 (34 + 5 * i + 4))
def mls (g : St) : List E5 := (List.range (g 15 0 0 9).toNat).map (fun i : Nat => mev g i)
theorem mls_get (g : St) (i : Nat) : (mls g)[i]? = if i < (g 15 0 0 9).toNat then some (mev g i) else none := by
  unfold mls
  rw [List.getElem?_map]
  split
  · rename_i h; rw [List.getElem?_range h]; rfl
  · rename_i h; rw [List.getElem?_eq_none (by simp; omega)]; rfl
def rs (F : Int → Int → Int) : Int → Int → Int := fun p x => if 0 ≤ p ∧ p < 4 ∧ 0 ≤ x ∧ x < 6 then F p x else 0
theorem rs_bm {F : Int → Int → Int} {p q : Int} (hp : 0 ≤ p ∧ p < 4) (hq : 0 ≤ q ∧ q < 6) : rs (bm F p q) = bm (rs F) p q := by
  funext x y; simp only [rs, bm]; (repeat' split) <;> omega
def rsA (S : AS) : AS := (rs S.1, S.2)
theorem fx_rs {cl : E5 → Bool} {pp : Int → Int} {ball : Int} {S : AS} {x : E5} (hx : 0 ≤ x.1 ∧ x.1 < 4) : rsA (fx cl pp ball S x) = fx cl pp ball (rsA S) x := by
  unfold fx
  by_cases h1 : cl x = true
  · rw [if_pos h1, if_pos h1]; unfold rsA; simp only []; rw [rs_bm hx (by decide)]
  · rw [if_neg h1, if_neg h1]
    by_cases h2 : pp x.1 ≠ x.2.1
    · rw [if_pos h2, if_pos h2]; unfold rsA; simp only []; rw [rs_bm hx (by decide)]
    · rw [if_neg h2, if_neg h2]
      by_cases h3 : ball ≠ x.2.1
      · rw [if_pos h3, if_pos h3]; unfold rsA; simp only []; rw [rs_bm hx (by decide)]
      · rw [if_neg h3, if_neg h3]; unfold rsA; simp only []; rw [rs_bm hx (by decide), rs_bm hx (by decide)]
theorem fold_rs {cl : E5 → Bool} {pp : Int → Int} {ball : Int} : ∀ (l : List E5) (S : AS), (∀ x ∈ l, 0 ≤ x.1 ∧ x.1 < 4) → rsA (l.foldl (fx cl pp ball) S) = l.foldl (fx cl pp ball) (rsA S)
  | [], _, _ => rfl
  | x :: l, S, h => by
    rw [List.foldl_cons, List.foldl_cons, fold_rs l _ (fun y hy => h y (List.mem_cons_of_mem _ hy)), fx_rs (h x List.mem_cons_self)]
def asM (q : St × Int) : AS := (rs (fun p x => q.1 15 0 0 (10 + 6 * p + x)), q.1 15 0 0 5, q.1 15 0 0 6, q.2)
theorem up_rs {u : St} {p q : Int} (hp : 0 ≤ p ∧ p < 4) (hq : 0 ≤ q ∧ q < 6) : rs (fun x y => up u 15 0 0 (10 + 6 * p + q) (u 15 0 0 (10 + 6 * p + q) + 1) 15 0 0 (10 + 6 * x + y)) = bm (rs (fun x y => u 15 0 0 (10 + 6 * x + y))) p q := by
  rw [← rs_bm hp hq]
  funext x y
  simp only [rs, bm]
  by_cases hd : 0 ≤ x ∧ x < 4 ∧ 0 ≤ y ∧ y < 6
  · rw [if_pos hd, if_pos hd]
    by_cases hx : x = p ∧ y = q
    · obtain ⟨rfl, rfl⟩ := hx; rw [if_pos ⟨rfl, rfl⟩, up_s]
    · rw [if_neg hx, up_i (by omega)]
  · rw [if_neg hd, if_neg hd]
theorem rs_56 {u : St} {a b : Int} : rs (fun x y => up (up u 15 0 0 5 a) 15 0 0 6 b 15 0 0 (10 + 6 * x + y)) = rs (fun x y => u 15 0 0 (10 + 6 * x + y)) := by
  funext x y
  simp only [rs]
  by_cases hd : 0 ≤ x ∧ x < 4 ∧ 0 ≤ y ∧ y < 6
  · rw [if_pos hd, if_pos hd, up_i (by omega), up_i (by omega)]
  · rw [if_neg hd, if_neg hd]
/-- what stays as it is while the echoes come back -/
def fq (h u : St) : Prop := fz h u ∧ ∀ p, 0 ≤ p → p < 4 → u 15 0 0 (10 + 6 * p + 0) = h 15 0 0 (10 + 6 * p + 0)
theorem cb_place {u : St} {e a p : Int} (hp : 0 ≤ p ∧ p < 4) (hx : 0 ≤ u 15 0 0 (34 + 5 * e + 0) ∧ u 15 0 0 (34 + 5 * e + 0) < 4) : cbG u e a 15 0 0 (10 + 6 * p + 0) = u 15 0 0 (10 + 6 * p + 0) := by
  have hk := cbK_in u e a
  unfold cbG; split
  · rw [up_i (by omega), up_i (by omega), cb2_i (by omega) (by omega)]
  · rw [cb1_i (by omega)]
theorem clM {h : St} {e : Int} (h0 : 0 ≤ e) (h1 : e < h 15 0 0 9) : clL (mls h) (mev h e) = true ↔ ¬ mCo h (h 15 0 0 (34 + 5 * e + 1)) (h 15 0 0 (34 + 5 * e + 3)) = 1 := by
  have a := cn_count (mDu h (h 15 0 0 (34 + 5 * e + 1)) (h 15 0 0 (34 + 5 * e + 3))) (fun i : Nat => mev h i) (smE (mev h e)) (fun i => rfl) (h 15 0 0 9).toNat
  have b : 0 < cn (mDu h (h 15 0 0 (34 + 5 * e + 1)) (h 15 0 0 (34 + 5 * e + 3))) (h 15 0 0 9).toNat := cn_pos h0 h1 (by simp [mDu])
  show decide (1 < ((List.range (h 15 0 0 9).toNat).map (fun i : Nat => mev h i)).countP (smE (mev h e))) = true ↔ ¬ cn (mDu h (h 15 0 0 (34 + 5 * e + 1)) (h 15 0 0 (34 + 5 * e + 3))) (h 15 0 0 9).toNat = 1
  rw [decide_eq_true_eq]
  omega
abbrev fM (h : St) : AS → E5 → AS := fx (clL (mls h)) (fun p => h 15 0 0 (10 + 6 * p + 0)) (h 15 0 0 4)
theorem cb_fx {h u : St} {e z : Int} (hq : fq h u) (h0 : 0 ≤ e) (h1 : e < h 15 0 0 9) (hc : h 15 0 0 (34 + 5 * e + 3) = h 15 0 0 3) (a : Int) (ha : a = sg h (h 15 0 0 (34 + 5 * e + 1))) : asM (cbG u e a, z + cbR u e a) = fM h (asM (u, z)) (mev h e) := by
  obtain ⟨⟨hw, hx, hf⟩, hp⟩ := hq
  have e9 := hx 9 (by decide)
  have ho := hw.2.2.2.2.2.2.2.2.2 e h0 (by omega)
  unfold okM at ho
  have e0 := hx (34 + 5 * e + 0) (by omega)
  have e1 := hx (34 + 5 * e + 1) (by omega)
  have e2 := hx (34 + 5 * e + 2) (by omega)
  have e4 := hx 4 (by decide)
  have hcl := clM h0 h1
  have hpl := hp (u 15 0 0 (34 + 5 * e + 0)) ho.1.1 ho.1.2
  have hsg : a = 0 ↔ clL (mls h) (mev h e) = true := by
    rw [hcl, ha, hc]; unfold sg; split <;> simp_all
  have r0 := ho.1
  rw [e0] at r0 hpl
  unfold fM fx
  by_cases c1 : clL (mls h) (mev h e) = true
  · have ka : cbK u e a = 4 := by unfold cbK; rw [if_pos (hsg.mpr c1)]
    rw [if_pos c1]
    unfold cbG cbR
    rw [if_neg (by omega), if_neg (by omega)]
    unfold cb1 asM
    simp only []
    rw [ka, e0, up_rs r0 (by decide), up_i (by omega), up_i (by omega), Int.add_zero z]; rfl
  · have na : ¬ a = 0 := fun hx => c1 (hsg.mp hx)
    rw [if_neg c1]
    by_cases c2 : h 15 0 0 (10 + 6 * h 15 0 0 (34 + 5 * e + 0) + 0) ≠ h 15 0 0 (34 + 5 * e + 1)
    · have ka : cbK u e a = 5 := by unfold cbK; rw [if_neg na, e0, if_neg (by omega)]
      rw [if_pos (show (fun p => h 15 0 0 (10 + 6 * p + 0)) (mev h e).1 ≠ (mev h e).2.1 from c2)]
      unfold cbG cbR
      rw [if_neg (by omega), if_neg (by omega)]
      unfold cb1 asM
      simp only []
      rw [ka, e0, up_rs r0 (by decide), up_i (by omega), up_i (by omega), Int.add_zero z]; rfl
    · have ka : cbK u e a = 3 := by unfold cbK; rw [if_neg na, e0, if_pos (by omega)]
      rw [if_neg (show ¬ (fun p => h 15 0 0 (10 + 6 * p + 0)) (mev h e).1 ≠ (mev h e).2.1 from c2)]
      by_cases c3 : h 15 0 0 4 ≠ h 15 0 0 (34 + 5 * e + 1)
      · rw [if_pos (show h 15 0 0 4 ≠ (mev h e).2.1 from c3)]
        unfold cbG cbR
        rw [if_neg (by omega), if_neg (by omega)]
        unfold cb1 asM
        simp only []
        rw [ka, e0, up_rs r0 (by decide), up_i (by omega), up_i (by omega), Int.add_zero z]; rfl
      · rw [if_neg (show ¬ h 15 0 0 4 ≠ (mev h e).2.1 from c3)]
        unfold cbG cbR
        rw [if_pos (by omega), if_pos (by omega)]
        unfold asM
        simp only []
        have n1 : u 15 0 0 (10 + 6 * u 15 0 0 (34 + 5 * e + 0) + 1) = cb1 u e a 15 0 0 (10 + 6 * u 15 0 0 (34 + 5 * e + 0) + 1) := (cb1_i (by omega)).symm
        rw [rs_56, up_i (by decide), up_s, up_s]
        unfold cb2
        rw [n1, e0, up_rs r0 (by decide)]
        unfold cb1
        rw [ka, e0, up_rs r0 (by decide), e2]; rfl
theorem fq_re {h : St} (hw : wm (h 15 0 0) 0) : fq h h := ⟨fz_re hw, fun _ _ _ => rfl⟩
theorem fq_cb {h u : St} {e a : Int} (hq : fq h u) (h0 : 0 ≤ e) (h1 : e < h 15 0 0 9) : fq h (cbG u e a) := by
  have e9 := hq.1.2.1 9 (by decide)
  have ho := hq.1.1.2.2.2.2.2.2.2.2.2 e h0 (by omega)
  unfold okM at ho
  exact ⟨fz_tr hq.1 (fz_cb hq.1.1 ⟨h0, by omega⟩), fun p a b => (cb_place ⟨a, b⟩ ho.1).trans (hq.2 p a b)⟩
def duP (h : St) (p : Int) : E5 → Bool := fun x => decide (x.2.1 = p ∧ x.2.2.2.1 = h 15 0 0 3)
theorem sg_fq {h u : St} (hq : fq h u) (p : Int) : sg u p = sg h p := by
  have hx := hq.1.2.1
  have e : mCo u p (u 15 0 0 3) = mCo h p (h 15 0 0 3) := by
    show cn (mDu u p (u 15 0 0 3)) (u 15 0 0 9).toNat = cn (mDu h p (h 15 0 0 3)) (h 15 0 0 9).toNat
    rw [hx 9 (by decide), hx 3 (by decide)]
    exact cn_congr (fun i h0 _ => by unfold mDu; rw [hx (34 + 5 * i + 1) (by omega), hx (34 + 5 * i + 3) (by omega)])
  unfold sg; rw [e]
theorem tpE_fold {h u : St} {p z : Int} (hq : fq h u) : ∀ n : Nat, (n : Int) ≤ h 15 0 0 9 → asM ((tpE u p (sg h p) n).1, z + (tpE u p (sg h p) n).2) = (((mls h).take n).filter (duP h p)).foldl (fM h) (asM (u, z)) ∧ fq h (tpE u p (sg h p) n).1
  | 0, _ => ⟨by simp [tpE], hq⟩
  | n + 1, hn => by
    have ih := tpE_fold (p := p) (z := z) hq n (by omega)
    have e1 := hq.1.2.1 (34 + 5 * (n : Int) + 1) (by omega)
    have e3 := hq.1.2.1 (34 + 5 * (n : Int) + 3) (by omega)
    have e4 := hq.1.2.1 3 (by decide)
    rw [List.take_succ, List.filter_append, List.foldl_append, mls_get, if_pos (by omega), tpE]
    by_cases hc : u 15 0 0 (34 + 5 * (n : Int) + 1) = p ∧ u 15 0 0 (34 + 5 * (n : Int) + 3) = u 15 0 0 3
    · rw [if_pos hc]
      have hd : duP h p (mev h n) = true := decide_eq_true ⟨by show h 15 0 0 (34 + 5 * (n : Int) + 1) = p; omega, by show h 15 0 0 (34 + 5 * (n : Int) + 3) = _; omega⟩
      have hcb := cb_fx (z := z + (tpE u p (sg h p) n).2) ih.2 (e := n) (by omega) (by omega) (by omega) (sg h p) (by rw [← e1, hc.1])
      refine ⟨?_, fq_cb ih.2 (by omega) (by omega)⟩
      show asM (cbG (tpE u p (sg h p) n).1 n (sg h p), z + ((tpE u p (sg h p) n).2 + cbR (tpE u p (sg h p) n).1 n (sg h p))) = _
      rw [← Int.add_assoc, hcb, ih.1, Option.toList_some, List.filter_cons_of_pos hd]; rfl
    · rw [if_neg hc]
      have hd : ¬ duP h p (mev h n) = true := fun hx => hc (by
        have := of_decide_eq_true hx
        have a1 : h 15 0 0 (34 + 5 * (n : Int) + 1) = p := this.1
        have a2 : h 15 0 0 (34 + 5 * (n : Int) + 3) = h 15 0 0 3 := this.2
        omega)
      refine ⟨?_, ih.2⟩
      rw [ih.1, Option.toList_some, List.filter_cons_of_neg hd]; rfl
def dueL (h : St) (n : Nat) : List E5 := (List.range n).flatMap (fun p : Nat => (mls h).filter (duP h p))
theorem mls_len (h : St) : (mls h).length = (h 15 0 0 9).toNat := by simp [mls]
theorem tpP_fold {h : St} (hw : wm (h 15 0 0) 0) : ∀ n : Nat, asM (tpP h n) = (dueL h n).foldl (fM h) (asM (h, 0)) ∧ fq h (tpP h n).1
  | 0 => ⟨rfl, fq_re hw⟩
  | n + 1 => by
    have ih := tpP_fold hw n
    have hN := hw.2.2.2.2.2.2.2.1
    have he := tpE_fold (p := n) (z := (tpP h n).2) ih.2 (h 15 0 0 9).toNat (by omega)
    rw [List.take_of_length_le (by rw [mls_len]; omega)] at he
    unfold dueL
    rw [List.range_succ, List.flatMap_append, List.foldl_append, tpP, sg_fq ih.2]
    refine ⟨?_, he.2⟩
    rw [he.1]
    show _ = List.foldl (fM h) (List.foldl (fM h) (asM (h, 0)) (dueL h n)) ([n].flatMap _)
    rw [← ih.1]
    simp
