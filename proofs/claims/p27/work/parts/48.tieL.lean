/-! class and law: the tie -/
theorem em_lo {g : St} {x : Int} (h : x < 10) : em g 15 0 0 x = if x = 6 then (g 14 0 0 6 + 1) / 2 else g 14 0 0 x := by
  show eml g x = _
  unfold eml; rw [if_pos h]
theorem em_cg {g u : St} (h : ∀ f : Nat, 14 ≤ f → f ≤ 17 → u f = g f) : em u = em g := by
  funext f k j x
  unfold em
  have e : eml u x = eml g x := by
    unfold eml
    rw [h 14 (by decide) (by decide), h 15 (by decide) (by decide), h 16 (by decide) (by decide), h 17 (by decide) (by decide)]
  rw [e]
theorem tieS_sim {g m m2 : St} {k : Int} (hR : tieS g k m) (h : ∀ x, 0 ≤ x → x < 9 → m2 15 0 0 x = m 15 0 0 x) (hp : ∀ p x, 0 ≤ p → p < 4 → 0 ≤ x → x < 6 → m2 15 0 0 (10 + 6 * p + x) = m 15 0 0 (10 + 6 * p + x)) (hl : mls m2 = mls m) (h9 : 0 ≤ m2 15 0 0 9) : tieS g k m2 := by
  obtain ⟨⟨⟨s0, s1, s2⟩, ⟨r3, r4, r5, r6⟩, r7, rp, hq⟩, h2, h3, h4⟩ := hR
  refine ⟨⟨⟨?_, ?_, ?_⟩, ⟨?_, ?_, ?_, ?_⟩, ?_, fun p x a b c d => ?_, by rw [hl]; exact hq⟩, by rw [hl]; exact h2, h9, ?_⟩
  · rw [h _ (by decide) (by decide)]; exact s0
  · rw [h _ (by decide) (by decide)]; exact s1
  · rw [h _ (by decide) (by decide)]; exact s2
  · rw [h _ (by decide) (by decide)]; exact r3
  · rw [h _ (by decide) (by decide)]; exact r4
  · rw [h _ (by decide) (by decide)]; exact r5
  · rw [h _ (by decide) (by decide)]; exact r6
  · rw [h _ (by decide) (by decide)]; exact r7
  · rw [hp p x a b c d]; exact rp p x a b c d
  · unfold sumM at h4 ⊢
    rw [h 8 (by decide) (by decide), hp 0 2 (by decide) (by decide) (by decide) (by decide), hp 1 2 (by decide) (by decide) (by decide) (by decide), hp 2 2 (by decide) (by decide) (by decide) (by decide), hp 3 2 (by decide) (by decide) (by decide) (by decide)]; exact h4
/-- the tie with the law's own rows, said in them -/
theorem tieL {g h : St} {k : Int} (hR : tieS g k (em h)) : (g 2 k 0 0 = h 14 0 0 0 ∧ g 2 k 0 1 = h 14 0 0 1 ∧ g 2 k 0 2 = h 14 0 0 2) ∧ (g 1 k 0 0 = h 14 0 0 3 ∧ g 3 k 0 0 = h 14 0 0 4 ∧ g 3 k 0 1 = h 14 0 0 5 ∧ g 3 k 0 2 = (h 14 0 0 6 + 1) / 2) ∧ g 1 k 0 1 = h 14 0 0 7 ∧ (∀ p x, 0 ≤ p → p < 4 → 0 ≤ x → x < 6 → g 6 k p x = h 15 0 0 (6 * p + x)) ∧ els g k = srt (lls h) ∧ 0 ≤ h 14 0 0 9 ∧ h 14 0 0 8 = 2 * (h 15 0 0 2 + h 15 0 0 8 + h 15 0 0 14 + h 15 0 0 20) := by
  obtain ⟨⟨⟨s0, s1, s2⟩, ⟨r3, r4, r5, r6⟩, r7, rp, hq⟩, h2, h3, h4⟩ := hR
  rw [em_q (by decide) (by decide)] at s0 s1 s2 r3 r4 r5 r7 h3 h4
  rw [em_6] at r6
  rw [mls_em] at h2
  refine ⟨⟨s0, s1, s2⟩, ⟨r3, r4, r5, r6⟩, r7, fun p x a b c d => by rw [rp p x a b c d, em_p ⟨a, b⟩ ⟨c, d⟩], h2, h3, ?_⟩
  unfold sumM at h4
  rw [em_p (p := 0) (by decide) (by decide), em_p (p := 1) (by decide) (by decide), em_p (p := 2) (by decide) (by decide), em_p (p := 3) (by decide) (by decide)] at h4
  exact h4
theorem tieL_mk {g h : St} {k : Int} (s : g 2 k 0 0 = h 14 0 0 0 ∧ g 2 k 0 1 = h 14 0 0 1 ∧ g 2 k 0 2 = h 14 0 0 2) (r : g 1 k 0 0 = h 14 0 0 3 ∧ g 3 k 0 0 = h 14 0 0 4 ∧ g 3 k 0 1 = h 14 0 0 5 ∧ g 3 k 0 2 = (h 14 0 0 6 + 1) / 2) (r7 : g 1 k 0 1 = h 14 0 0 7) (rp : ∀ p x, 0 ≤ p → p < 4 → 0 ≤ x → x < 6 → g 6 k p x = h 15 0 0 (6 * p + x)) (he : els g k = srt (lls h)) (h9 : 0 ≤ h 14 0 0 9) (h8 : h 14 0 0 8 = 2 * (h 15 0 0 2 + h 15 0 0 8 + h 15 0 0 14 + h 15 0 0 20)) : tieS g k (em h) := by
  unfold tieS tie sumM
  rw [mls_em, em_q (x := 0) (by decide) (by decide), em_q (x := 1) (by decide) (by decide), em_q (x := 2) (by decide) (by decide), em_q (x := 3) (by decide) (by decide), em_q (x := 4) (by decide) (by decide), em_q (x := 5) (by decide) (by decide), em_q (x := 7) (by decide) (by decide), em_q (x := 8) (by decide) (by decide), em_q (x := 9) (by decide) (by decide), em_6, em_p (p := 0) (by decide) (by decide), em_p (p := 1) (by decide) (by decide), em_p (p := 2) (by decide) (by decide), em_p (p := 3) (by decide) (by decide)]
  exact ⟨⟨s, r, r7, fun p x a b c d => by rw [em_p ⟨a, b⟩ ⟨c, d⟩]; exact rp p x a b c d, by rw [he]; exact srt_perm _⟩, he, h9, h8⟩
/-- a turn -/
theorem ts_tie {c c2 h h2 : St} {x x2 : Int} (hw : wf c 0 1) (hq : wq h 1) (hc : h 14 0 0 3 + 1 ≤ 100000) (hR : tieS c 0 (em h)) (ht : tr c c2 0 x) (hl : lcm (ltA h) h2 x2) : tieS c2 0 (em h2) ∧ x = x2 := by
  have hel := els_tr hw ht
  obtain ⟨b, hb, h1, h2', hz, hd⟩ := ht
  obtain ⟨⟨s0, s1, s2⟩, ⟨r3, r4, r5, r6⟩, r7, rp, he, h9, h8⟩ := tieL hR
  have hp : (els c 0).Perm (lls h) := by rw [he]; exact srt_perm _
  have hdt := due_take hw hb h1 h2'
  have cf := ca_fold (tbG c 0) 0 b.toNat (by rw [tbG_2]; omega)
  have cc : ∀ f : Nat, f ≠ 3 → f ≠ 6 → (caN (tbG c 0) 0 b.toNat).1 f = tbG c 0 f := fun f a d => caN_f _ _ a d _
  have b3 := tbG_3 c 0
  have eg : els (tbG c 0) 0 = els c 0 := els_x (tbG_2 c 0) (tbG_f _ _ (by decide) (by decide)) (tbG_f _ _ (by decide) (by decide))
  have plr : ∀ y ∈ (els c 0).take b.toNat, 0 ≤ y.1 ∧ y.1 < 4 := fun y hy => els_pl hw (List.mem_of_mem_take hy)
  have lA := ltA_ls h
  have q6 := hq.2.1
  have a3 := ltA_3 h
  have ball : tbG c 0 3 0 0 0 = ltA h 14 0 0 4 := by rw [b3.1, ltA_4, s0, r4, r5, r6]
  -- the folds are one
  have tf : rsA (asC 0 (caN (tbG c 0) 0 b.toNat)) = asX h2 (h2 14 0 0 5) (h2 14 0 0 6) x2 := by
    rw [hl.1, fdL_all, cf.1, eg, fold_rs _ _ plr]
    have st : rsA (asC 0 (tbG c 0, 0)) = asX (ltA h) (ltA h 14 0 0 5) (ltA h 14 0 0 6) 0 := by
      unfold rsA asC asX
      simp only []
      have e6 : rs (fun p x => tbG c 0 6 0 p x) = rs (fun p x => ltA h 15 0 0 (6 * p + x)) := by
        funext p y
        simp only [rs]
        by_cases hx : 0 ≤ p ∧ p < 4 ∧ 0 ≤ y ∧ y < 6
        · rw [if_pos hx, if_pos hx, tbG_f _ _ (by decide) (by decide), rp p y hx.1 hx.2.1 hx.2.2.1 hx.2.2.2, ltA_f h (by decide)]
        · rw [if_neg hx, if_neg hx]
      have e7 : (bwalk (h 14 0 0 0) (h 14 0 0 5).toNat (h 14 0 0 4, (h 14 0 0 6 + 1) / 2)).2 = (ltA h 14 0 0 6 + 1) / 2 := by rw [ltA_6]; omega
      rw [e6, b3.2.1, b3.2.2, s0, r4, r5, r6, e7, ltA_x h (x := 5) (by decide) (by decide) (by decide)]
    have cl : clL (els c 0) = clL (lls (ltA h)) := by rw [lA]; exact clL_perm hp
    rw [st, cl, ball]
    have pe := fx_pp (cl := clL (lls (ltA h))) (pp := fun p => tbG c 0 6 0 p 0) (pq := fun p => ltA h 15 0 0 (6 * p)) (ball := ltA h 14 0 0 4) ((els c 0).take b.toNat) (asX (ltA h) (ltA h 14 0 0 5) (ltA h 14 0 0 6) 0) (fun y hy => by
      have hx := plr y hy
      show tbG c 0 6 0 y.1 0 = ltA h 15 0 0 (6 * y.1)
      rw [tbG_f _ _ (by decide) (by decide), rp _ _ hx.1 hx.2 (by decide) (by decide), ltA_f h (by decide), show 6 * y.1 + 0 = 6 * y.1 by omega])
    rw [pe, a3, lA]
    have tk : ((els c 0).take b.toNat).Perm ((lls h).filter (duQ (h 14 0 0 3 + 1))) := by
      rw [← hdt.1, r3]
      exact hp.filter _
    refine fx_perm tk (fun y hy y2 hy2 cx cy => ?_) _
    have me : ∀ y ∈ (els c 0).take b.toNat, y ∈ lls h ∧ y.2.2.2.1 = c 1 0 0 0 + 1 := fun y hy => by
      refine ⟨hp.mem_iff.mp (List.mem_of_mem_take hy), ?_⟩
      rw [← hdt.1] at hy
      exact of_decide_eq_true (List.mem_filter.mp hy).2
    exact ct_one me y hy y2 hy2 cx cy
  have hk := fun (p : Int) (a : 0 ≤ p) (d : p < 4) => lcm_k hl (p := p) (q := 2) ⟨a, d⟩ (Or.inr rfl)
  obtain ⟨l1, l2, l3, l4, l5, l6, l7, l8, l9⟩ := hl
  obtain ⟨v, ⟨hv, -⟩, rfl⟩ := hd
  generalize hC : caN (tbG c 0) 0 b.toNat = C at *
  have f1 : rs (fun p x => C.1 6 0 p x) = rs (fun p x => h2 15 0 0 (6 * p + x)) := congrArg (fun q : AS => q.1) tf
  have f2 : C.1 3 0 0 1 = h2 14 0 0 5 := congrArg (fun q : AS => q.2.1) tf
  have f3 : C.1 3 0 0 2 = (h2 14 0 0 6 + 1) / 2 := congrArg (fun q : AS => q.2.2.1) tf
  have f4 : C.2 = x2 := congrArg (fun q : AS => q.2.2.2) tf
  have ax := fun x => ltA_x h (x := x)
  refine ⟨tieL_mk ⟨?_, ?_, ?_⟩ ⟨?_, ?_, ?_, ?_⟩ ?_ (fun p y p0 p4 x0 x6 => ?_) ?_ l7.1 ?_, by rw [hz, f4]⟩
  · rw [up_f (by decide), hv 2 0 0 0 (by omega), cc 2 (by decide) (by decide), tbG_f _ _ (by decide) (by decide), l3 0 (by decide) (by decide) (by decide), ax 0 (by decide) (by decide) (by decide), s0]
  · rw [up_f (by decide), hv 2 0 0 1 (by omega), cc 2 (by decide) (by decide), tbG_f _ _ (by decide) (by decide), l3 1 (by decide) (by decide) (by decide), ax 1 (by decide) (by decide) (by decide), s1]
  · rw [up_f (by decide), hv 2 0 0 2 (by omega), cc 2 (by decide) (by decide), tbG_f _ _ (by decide) (by decide), l3 2 (by decide) (by decide) (by decide), ax 2 (by decide) (by decide) (by decide), s2]
  · rw [up_i (by decide), hv 1 0 0 0 (by omega), cc 1 (by decide) (by decide), tbG_0, l3 3 (by decide) (by decide) (by decide), a3, r3]
  · rw [up_f (by decide), hv 3 0 0 0 (by omega), cf.2.1, ball, l3 4 (by decide) (by decide) (by decide)]
  · rw [up_f (by decide), hv 3 0 0 1 (by omega), f2]
  · rw [up_f (by decide), hv 3 0 0 2 (by omega), f3]
  · rw [up_i (by decide), hv 1 0 0 1 (by omega), cc 1 (by decide) (by decide), tbG_1, l3 7 (by decide) (by decide) (by decide), ax 7 (by decide) (by decide) (by decide), r7]
  · have := congrFun (congrFun f1 p) y
    rw [rs_at ⟨p0, p4⟩ ⟨x0, x6⟩, rs_at ⟨p0, p4⟩ ⟨x0, x6⟩] at this
    rw [up_f (by decide), hv 6 0 p y (by omega), this]
  · rw [hel, he, l2, lA, a3, r3]
    rw [srt_filter (fun a d had ha => decide_eq_true (by have := of_decide_eq_true ha; unfold dueE at had; omega)) (lls h)]
    congr 1
    refine List.filter_congr (fun y hy => ?_)
    obtain ⟨j, j0, j1, rfl⟩ := lls_mem hy
    have hj := (wq_s hq).2.2.2.2.2.2.2.2 j j0 j1
    show decide (h 14 0 0 3 + 1 < h 16 0 0 j / 2) = decide (h 16 0 0 j / 2 ≠ h 14 0 0 3 + 1)
    exact decide_eq_decide.mpr (by omega)
  · have k0 := hk 0 (by decide) (by decide)
    have k1 := hk 1 (by decide) (by decide)
    have k2 := hk 2 (by decide) (by decide)
    have k3 := hk 3 (by decide) (by decide)
    rw [ltA_f h (by decide)] at k0 k1 k2 k3
    rw [l3 8 (by decide) (by decide) (by decide), ax 8 (by decide) (by decide) (by decide), h8]
    have e0 : h2 15 0 0 2 = h 15 0 0 2 := k0
    have e1 : h2 15 0 0 8 = h 15 0 0 8 := k1
    have e2 : h2 15 0 0 14 = h 15 0 0 14 := k2
    have e3 : h2 15 0 0 20 = h 15 0 0 20 := k3
    rw [e0, e1, e2, e3]
/-- what is sent is answered, has clashed, is lost, or is under way -/
def cons (g : St) : Prop := g 14 0 0 8 = s345 (plF g) + g 14 0 0 9
theorem fil_len {α : Type} {P Q : α → Bool} (h : ∀ x, Q x = !P x) : ∀ l : List α, (l.filter P).length + (l.filter Q).length = l.length
  | [] => rfl
  | x :: l => by
    have ih := fil_len h l
    by_cases hx : P x = true
    · rw [List.filter_cons_of_pos hx, List.filter_cons_of_neg (by rw [h, hx]; decide), List.length_cons, List.length_cons]; omega
    · rw [List.filter_cons_of_neg hx, List.filter_cons_of_pos (by rw [h]; simp only [Bool.not_eq_true] at hx; rw [hx]; rfl), List.length_cons, List.length_cons]; omega
theorem cons_lt {v u : St} {z : Int} (hq : wq v 1) (hc : cons v) (hl : lcm (ltA v) u z) : cons u := by
  have h1 := congrArg (fun S : AS => s345 S.1) hl.1
  rw [fdL_all] at h1
  first | simp only [] at h1 | skip
  rw [fold_345 _ _ (fun y hy => by
    obtain ⟨j, j0, j1, rfl⟩ := lls_mem (List.mem_filter.mp hy).1
    have hj := (wq_s hq).2.2.2.2.2.2.2.2 j j0 (by rw [ltA_x v (by decide) (by decide) (by decide)] at j1; exact j1)
    rw [← ltA_f v (f := 17) (by decide)] at hj
    show 0 ≤ ltA v 17 0 0 j / 10 % 10 ∧ ltA v 17 0 0 j / 10 % 10 < 4
    omega)] at h1
  have e1 : s345 (asX u (u 14 0 0 5) (u 14 0 0 6) z).1 = s345 (plF u) := rs_345 _
  have e2 : s345 (asX (ltA v) (ltA v 14 0 0 5) (ltA v 14 0 0 6) 0).1 = s345 (plF v) := by
    refine (rs_345 _).trans ?_
    show s345 (fun p x => ltA v 15 0 0 (6 * p + x)) = _
    rw [ltA_f v (by decide)]; rfl
  rw [e1, e2] at h1
  have n1 := congrArg List.length hl.2.1
  rw [lls_len] at n1
  have n2 := fil_len (P := duQ (ltA v 14 0 0 3)) (Q := fun x : E5 => decide (x.2.2.2.1 ≠ ltA v 14 0 0 3)) (fun x => by unfold duQ; rw [decide_not]) (lls (ltA v))
  rw [lls_len, ltA_x v (x := 9) (by decide) (by decide) (by decide)] at n2
  have n3 := (wq_s hq).2.2.2.2.2.2.1
  have n4 := hl.2.2.2.2.2.2.1.1
  have h8 := hl.2.2.1 8 (by decide) (by decide) (by decide)
  rw [ltA_x v (by decide) (by decide) (by decide)] at h8
  unfold cons at hc ⊢
  omega
theorem lts_all : ∀ (n : Nat) {g u : St} {z : Int}, lts n g u z → wq g 1 → g 14 0 0 3 + n ≤ 100000 → (∀ j, 0 ≤ j → j < 24 → g 15 0 0 j + 24 * n ≤ 200000) → cons g → wq u 1 ∧ u 14 0 0 3 = g 14 0 0 3 + n ∧ (∀ j, 0 ≤ j → j < 24 → u 15 0 0 j ≤ g 15 0 0 j + 24 * n) ∧ cons u ∧ u 14 0 0 7 = g 14 0 0 7 ∧ u 14 0 0 8 = g 14 0 0 8 ∧ (0 ≤ z ∧ z ≤ 24 * n)
  | 0, g, u, z, h, hq, hc, hb, hk => by
    obtain ⟨rfl, rfl⟩ := h
    exact ⟨hq, by omega, fun j a b => by omega, hk, rfl, rfl, by omega⟩
  | n + 1, g, u, z, h, hq, hc, hb, hk => by
    obtain ⟨v, y, x, h1, h2, rfl⟩ := h
    obtain ⟨i1, i2, i3, i4, i5, i6, i7⟩ := lts_all n h1 hq (by omega) (fun j a b => by have := hb j a b; omega) hk
    have b24 : ∀ j, 0 ≤ j → j < 24 → v 15 0 0 j + 24 ≤ 200000 := fun j a b => by have := hb j a b; have := i3 j a b; omega
    refine ⟨wq_lt i1 (by omega) b24 h2, ?_, fun j a b => ?_, cons_lt i1 i4 h2, ?_, ?_, ?_⟩
    · rw [h2.2.2.1 3 (by decide) (by decide) (by decide), ltA_3]; omega
    · have := (h2.2.2.2.2.2.1 j a b).2
      rw [ltA_f v (by decide)] at this
      have := i3 j a b
      omega
    · rw [h2.2.2.1 7 (by decide) (by decide) (by decide), ltA_x v (by decide) (by decide) (by decide)]; exact i5
    · rw [h2.2.2.1 8 (by decide) (by decide) (by decide), ltA_x v (by decide) (by decide) (by decide)]; exact i6
    · have := h2.2.2.2.2.2.2.2.1; omega
theorem tss_tie : ∀ (n : Nat) {c c2 h h2 : St} {z z2 : Int}, wf c 0 1 → c6 c → wq h 1 → h 14 0 0 3 + n ≤ 100000 → (∀ j, 0 ≤ j → j < 24 → h 15 0 0 j + 24 * n ≤ 200000) → cons h → tieS c 0 (em h) → trs 0 n c c2 z → lts n h h2 z2 → tieS c2 0 (em h2) ∧ z = z2
  | 0, c, c2, h, h2, z, z2, _, _, _, _, _, _, hR, ht, hl => by
    obtain ⟨rfl, rfl⟩ := ht
    obtain ⟨rfl, rfl⟩ := hl
    exact ⟨hR, rfl⟩
  | n + 1, c, c2, h, h2, z, z2, hw, h6, hq, hc, hb, hk, hR, ht, hl => by
    obtain ⟨v, y, x, t1, t2, rfl⟩ := ht
    obtain ⟨v2, y2, x2, l1, l2, rfl⟩ := hl
    have hb2 : ∀ j, 0 ≤ j → j < 24 → h 15 0 0 j + 24 * n ≤ 200000 := fun j a b => by have := hb j a b; omega
    have ih := tss_tie n hw h6 hq (by omega) hb2 hk hR t1 l1
    have o := trs_ok n hw h6 (by have := (tieL hR).2.1.1; omega) t1
    have la := lts_all n l1 hq (by omega) hb2 hk
    have s := ts_tie o.1 la.1 (by omega) ih.1 t2 l2
    exact ⟨s.1, by rw [ih.2, s.2]⟩
