/-! class and reference: a turn -/
def tie (g : St) (k : Int) (m : St) : Prop := (g 2 k 0 0 = m 15 0 0 0 ∧ g 2 k 0 1 = m 15 0 0 1 ∧ g 2 k 0 2 = m 15 0 0 2) ∧ (g 1 k 0 0 = m 15 0 0 3 ∧ g 3 k 0 0 = m 15 0 0 4 ∧ g 3 k 0 1 = m 15 0 0 5 ∧ g 3 k 0 2 = m 15 0 0 6) ∧ g 1 k 0 1 = m 15 0 0 7 ∧ (∀ p x, 0 ≤ p → p < 4 → 0 ≤ x → x < 6 → g 6 k p x = m 15 0 0 (10 + 6 * p + x)) ∧ (els g k).Perm (mls m)
theorem fx_pp {cl : E5 → Bool} {pp pq : Int → Int} {ball : Int} : ∀ (l : List E5) (S : AS), (∀ x ∈ l, pp x.1 = pq x.1) → l.foldl (fx cl pp ball) S = l.foldl (fx cl pq ball) S
  | [], _, _ => rfl
  | x :: l, S, h => by
    have e : fx cl pp ball S x = fx cl pq ball S x := by unfold fx; rw [h x List.mem_cons_self]
    rw [List.foldl_cons, List.foldl_cons, e, fx_pp l _ (fun y hy => h y (List.mem_cons_of_mem _ hy))]
theorem els_mem {g : St} {k : Int} {x : E5} (hx : x ∈ els g k) : ∃ i : Nat, i < (g 1 k 0 2).toNat ∧ x = ev g k i := by
  unfold els at hx
  obtain ⟨i, hi, rfl⟩ := List.mem_map.mp hx
  exact ⟨i, List.mem_range.mp hi, rfl⟩
theorem els_pl {g : St} {k d : Int} (h : wf g k d) {x : E5} (hx : x ∈ els g k) : 0 ≤ x.1 ∧ x.1 < 4 := by
  obtain ⟨i, hi, rfl⟩ := els_mem hx
  have := h.2.2.2.2.2.2.2.2.2.2.2.1 i (by omega) (by omega)
  unfold okE at this
  exact this.1
theorem mem_take {α : Type} {L : List α} {b : Nat} {x : α} (h : x ∈ L.take b) : ∃ i : Nat, i < b ∧ L[i]? = some x := by
  obtain ⟨i, hi⟩ := List.mem_iff_getElem?.mp h
  rw [List.getElem?_take] at hi
  by_cases hl : i < b
  · rw [if_pos hl] at hi; exact ⟨i, hl, hi⟩
  · rw [if_neg hl] at hi; exact absurd hi (by simp)
theorem mem_drop {α : Type} {L : List α} {b : Nat} {x : α} (h : x ∈ L.drop b) : ∃ i : Nat, b ≤ i ∧ L[i]? = some x := by
  obtain ⟨i, hi⟩ := List.mem_iff_getElem?.mp h
  rw [List.getElem?_drop] at hi
  exact ⟨b + i, by omega, hi⟩
theorem els_at {g : St} {k : Int} {i : Nat} {x : E5} (h : (els g k)[i]? = some x) : (i : Int) < g 1 k 0 2 ∧ x = ev g k i := by
  rw [els_get] at h
  by_cases hl : i < (g 1 k 0 2).toNat
  · rw [if_pos hl] at h; exact ⟨by omega, (Option.some.inj h).symm⟩
  · rw [if_neg hl] at h; exact absurd h (by simp)
/-- the first echoes are those that are due -/
theorem due_take {g : St} {k b : Int} (h : wf g k 1) (hb : 0 ≤ b ∧ b ≤ g 1 k 0 2) (h1 : ∀ i, 0 ≤ i → i < b → eF g k i 3 ≤ g 1 k 0 0 + 1) (h2 : b < g 1 k 0 2 → g 1 k 0 0 + 1 < eF g k b 3) : (els g k).filter (duQ (g 1 k 0 0 + 1)) = (els g k).take b.toNat ∧ (els g k).filter (fun x => decide (g 1 k 0 0 + 1 < x.2.2.2.1)) = (els g k).drop b.toNat := by
  have hEc := h.2.2.2.2.2.2.2.2.2.2.2.1
  have hSo := h.2.2.2.2.2.2.2.2.2.2.2.2
  have ta : ∀ x ∈ (els g k).take b.toNat, x.2.2.2.1 = g 1 k 0 0 + 1 := fun x hx => by
    obtain ⟨i, hi, hx⟩ := mem_take hx
    obtain ⟨hn, rfl⟩ := els_at hx
    have a := h1 i (by omega) (by omega)
    have o := hEc i (by omega) hn
    unfold okE at o
    show eF g k i 3 = _
    unfold eF at *; omega
  have dr : ∀ x ∈ (els g k).drop b.toNat, g 1 k 0 0 + 1 < x.2.2.2.1 := fun x hx => by
    obtain ⟨i, hi, hx⟩ := mem_drop hx
    obtain ⟨hn, rfl⟩ := els_at hx
    have a := h2 (by omega)
    have s := hSo b i (by omega) (by omega) hn
    show _ < eF g k i 3
    unfold eF at *; omega
  exact ⟨filter_take (fun x hx => decide_eq_true (ta x hx)) (fun x hx hn => by have := of_decide_eq_true hn; have := dr x hx; omega), filter_drop (fun x hx hn => by have := of_decide_eq_true hn; have := ta x hx; omega) (fun x hx => decide_eq_true (dr x hx))⟩
theorem mtC_46 {g : St} : mtC g 15 0 0 4 = (bwalk (g 15 0 0 0) (g 15 0 0 5).toNat (g 15 0 0 4, g 15 0 0 6)).1 ∧ mtC g 15 0 0 6 = (bwalk (g 15 0 0 0) (g 15 0 0 5).toNat (g 15 0 0 4, g 15 0 0 6)).2 := by
  have e1 : mtB g 14 0 0 12 = (bwalk (g 15 0 0 0) (g 15 0 0 5).toNat (g 15 0 0 4, g 15 0 0 6)).1 := by simp [mtB, mtA, mbG, up]
  have e2 : mtB g 14 0 0 13 = (bwalk (g 15 0 0 0) (g 15 0 0 5).toNat (g 15 0 0 4, g 15 0 0 6)).2 := by simp [mtB, mtA, mbG, up]
  unfold mtC
  exact ⟨by rw [up_i (by decide), up_s, e1], by rw [up_s, e2]⟩
theorem tbG_3 (g : St) (k : Int) : tbG g k 3 k 0 0 = (bwalk (g 2 k 0 0) (g 3 k 0 1).toNat (g 3 k 0 0, g 3 k 0 2)).1 ∧ tbG g k 3 k 0 1 = g 3 k 0 1 ∧ tbG g k 3 k 0 2 = (bwalk (g 2 k 0 0) (g 3 k 0 1).toNat (g 3 k 0 0, g 3 k 0 2)).2 := by
  unfold tbG
  refine ⟨?_, ?_, ?_⟩ <;> simp [bl, up]
/-- both fold to the same -/
theorem turn_fold {g m : St} {k b : Int} (hw : wf g k 1) (hm : wm (m 15 0 0) 1) (hc : m 15 0 0 3 + 1 ≤ 100000) (hR : tie g k m) (hb : 0 ≤ b ∧ b ≤ g 1 k 0 2) (h1 : ∀ i, 0 ≤ i → i < b → eF g k i 3 ≤ g 1 k 0 0 + 1) (h2 : b < g 1 k 0 2 → g 1 k 0 0 + 1 < eF g k b 3) : rsA (asC k (caN (tbG g k) k b.toNat)) = asM (tpP (mtC m) (m 15 0 0 0 + 1).toNat) := by
  obtain ⟨⟨s0, s1, s2⟩, ⟨r3, r4, r5, r6⟩, r7, rp, hp⟩ := hR
  have hmc := wm_mt hm hc
  obtain ⟨b0, b1, b2⟩ := tbG_3 g k
  obtain ⟨m4, m6⟩ := mtC_46 (g := m)
  have eg : els (tbG g k) k = els g k := els_x (tbG_2 g k) (tbG_f _ _ (by decide) (by decide)) (tbG_f _ _ (by decide) (by decide))
  have em : mls (mtC m) = mls m := mls_x (fun x hx => mtC_x m (by omega) (by omega) (by omega))
  have hd := due_take hw hb h1 h2
  have ball : tbG g k 3 k 0 0 = mtC m 15 0 0 4 := by rw [b0, m4, s0, r4, r5, r6]
  have cf := (ca_fold (tbG g k) k b.toNat (by rw [tbG_2]; omega)).1
  have tk : ((els g k).take b.toNat).Perm (dueL (mtC m) (m 15 0 0 0 + 1).toNat) := by
    have e0 : mtC m 15 0 0 0 = m 15 0 0 0 := mtC_x m (by decide) (by decide) (by decide)
    have q := dueL_perm hmc
    rw [e0, em, mtC_3] at q
    rw [← hd.1, r3]
    exact (hp.filter _).trans q.symm
  have plr : ∀ x ∈ (els g k).take b.toNat, 0 ≤ x.1 ∧ x.1 < 4 := fun x hx => els_pl hw (List.mem_of_mem_take hx)
  rw [cf, eg, fold_rs _ _ plr, (tpP_fold hmc _).1]
  have st : rsA (asC k (tbG g k, 0)) = asM (mtC m, 0) := by
    unfold rsA asC asM
    simp only []
    have e6 : rs (fun p x => tbG g k 6 k p x) = rs (fun p x => mtC m 15 0 0 (10 + 6 * p + x)) := by
      funext p x
      simp only [rs]
      by_cases hx : 0 ≤ p ∧ p < 4 ∧ 0 ≤ x ∧ x < 6
      · rw [if_pos hx, if_pos hx, tbG_f _ _ (by decide) (by decide), rp p x hx.1 hx.2.1 hx.2.2.1 hx.2.2.2, mtC_x m (by omega) (by omega) (by omega)]
      · rw [if_neg hx, if_neg hx]
    rw [e6, b1, b2, m6, mtC_x m (by decide) (by decide) (by decide), s0, r4, r5, r6]
  rw [st]
  have cl : clL (els g k) = clL (mls (mtC m)) := by rw [em]; exact clL_perm hp
  rw [cl, ball]
  have pe := fx_pp (cl := clL (mls (mtC m))) (pp := fun p => tbG g k 6 k p 0) (pq := fun p => mtC m 15 0 0 (10 + 6 * p + 0)) (ball := mtC m 15 0 0 4) ((els g k).take b.toNat) (asM (mtC m, 0)) (fun x hx => by
    have hx := plr x hx
    show tbG g k 6 k x.1 0 = mtC m 15 0 0 (10 + 6 * x.1 + 0)
    rw [tbG_f _ _ (by decide) (by decide), rp _ _ hx.1 hx.2 (by decide) (by decide), mtC_x m (by omega) (by omega) (by omega)])
  rw [pe]
  refine fx_perm tk (fun x hx y hy cx cy => ?_) _
  have me : ∀ x ∈ (els g k).take b.toNat, x ∈ mls (mtC m) ∧ x.2.2.2.1 = g 1 k 0 0 + 1 := fun x hx => by
    refine ⟨by rw [em]; exact hp.mem_iff.mp (List.mem_of_mem_take hx), ?_⟩
    rw [← hd.1] at hx
    exact of_decide_eq_true (List.mem_filter.mp hx).2
  exact ct_one me x hx y hy cx cy
