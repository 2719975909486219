/-! what stays as it is: the other canyons, the text, the reference -/
def fr (g u : St) : Prop := (∀ (f : Nat) (k : Int), k ≠ 0 → u f k = g f k) ∧ ∀ f : Nat, 8 ≤ f → u f = g f
theorem fr_re (g : St) : fr g g := ⟨fun _ _ _ => rfl, fun _ _ => rfl⟩
theorem fr_tr {g u v : St} (h : fr g u) (h2 : fr u v) : fr g v := ⟨fun f k hk => (h2.1 f k hk).trans (h.1 f k hk), fun f hf => (h2.2 f hf).trans (h.2 f hf)⟩
theorem fr_up {g : St} {f : Nat} {j i v : Int} (hf : f < 8) : fr g (up g f 0 j i v) := ⟨fun f' k hk => by funext j' i'; exact up_k hk, fun f' hf' => up_ff (by omega)⟩
theorem fr_bl (g : St) (p r : Int) : fr g (bl g 0 p r) := ⟨fun f k hk => by funext j i; simp only [bl]; rw [if_neg (fun h => hk h.2.1), if_neg (fun h => hk h.2.1)], fun f hf => by funext k j i; simp only [bl]; rw [if_neg (fun h => by omega), if_neg (fun h => by omega)]⟩
theorem fr_ec (g : St) (p w y : Int) : fr g (ecG g 0 p w y) := by
  unfold ecG
  exact fr_tr (fr_up (by decide)) (fr_tr (fr_up (by decide)) (fr_tr (fr_up (by decide)) (fr_tr (fr_up (by decide)) (fr_up (by decide)))))
theorem fr_sh (g : St) (n a : Int) : fr g (shG g 0 n a) := ⟨fun f k hk => by funext j i; simp only [shG]; rw [if_neg (fun h => hk h.2.1)], fun f hf => by funext k j i; simp only [shG]; rw [if_neg (fun h => by omega)]⟩
theorem fr_ad (g : St) (p w y a : Int) : fr g (adG g 0 p w y a) := by
  unfold adG
  exact fr_tr (fr_ec g p w y) (fr_tr (fr_sh _ _ _) (fr_tr (fr_up (by decide)) (fr_up (by decide))))
theorem fr_ic (g : St) (r : Int) : fr g (icG g 0 r) := by
  unfold icG; (repeat' split)
  · exact fr_up (by decide)
  · exact fr_up (by decide)
  · exact fr_up (by decide)
  · exact fr_tr (fr_up (by decide)) (fr_tr (fr_up (by decide)) (fr_tr (fr_up (by decide)) (fr_up (by decide))))
theorem fr_ca (g : St) : ∀ n : Nat, fr g (caN g 0 n).1
  | 0 => fr_re g
  | n + 1 => by rw [caN]; exact fr_tr (fr_ca g n) (fr_ic _ _)
theorem fr_tb (g : St) : fr g (tbG g 0) := by unfold tbG; exact fr_tr (fr_up (by decide)) (fr_bl _ _ _)
theorem fr_turn {g u : St} {z : Int} (h : tr g u 0 z) : fr g u := by
  obtain ⟨b, -, -, -, -, v, ⟨h1, -⟩, rfl⟩ := h
  refine fr_tr (fr_tr (fr_tb g) (fr_ca _ b.toNat)) (fr_tr (u := v) ⟨fun f k hk => ?_, fun f hf => ?_⟩ (fr_up (by decide)))
  · funext j i; exact h1 f k j i (fun hx => hk hx.2)
  · funext k j i; exact h1 f k j i (fun hx => by omega)
theorem fr_trs : ∀ (n : Nat) {g u : St} {z : Int}, trs 0 n g u z → fr g u
  | 0, g, u, z, h => by obtain ⟨rfl, -⟩ := h; exact fr_re _
  | n + 1, g, u, z, h => by obtain ⟨v, y, x, h1, h2, -⟩ := h; exact fr_tr (fr_trs n h1) (fr_turn h2)
theorem fr_se {g u : St} {p w z : Int} (h : se g u 0 p w z) : fr g u := by
  rcases h with ⟨-, -, rfl⟩ | ⟨-, -, a, b, -, -, rfl⟩
  · exact fr_up (by decide)
  · exact fr_tr (fr_tr (fr_up (by decide)) (fr_ad _ _ _ _ _)) (fr_ad _ _ _ _ _)
theorem fr_mv (g : St) (p b : Int) : fr g (mvG g 0 p b) := by unfold mvG; split <;> exact fr_up (by decide)
theorem fr_do {g u : St} {i z : Int} (h : do1 g u i z) : fr g u := by
  rcases h with ⟨-, y, h2, -⟩ | ⟨-, rfl, -⟩ | ⟨-, ⟨-, rfl, -⟩ | ⟨-, -, y, h3⟩⟩
  · exact fr_se h2
  · exact fr_mv _ _ _
  · exact fr_re _
  · exact fr_trs _ h3
theorem fr_rn : ∀ (n : Nat) {g u : St} {i z : Int}, rnC n g i u z → fr g u
  | 0, g, u, i, z, h => by obtain ⟨rfl, -⟩ := h; exact fr_re _
  | n + 1, g, u, i, z, h => by
    rcases h with ⟨-, rfl, -⟩ | ⟨-, -, h⟩ | ⟨-, -, v, b, h1, ⟨-, rfl, -⟩ | ⟨-, y, h2, -⟩⟩
    · exact fr_re _
    · exact fr_rn n h
    · exact fr_do h1
    · exact fr_tr (fr_do h1) (fr_rn n h2)
/-! bounds of what is counted -/
def bd (g : St) (k n : Int) : Prop := (∀ p q, 0 ≤ p → p < 4 → 1 ≤ q → q ≤ 5 → 0 ≤ g 6 k p q ∧ g 6 k p q ≤ 6 * g 1 k 0 0 + n) ∧ 0 ≤ g 1 k 0 1 ∧ g 1 k 0 1 ≤ n
theorem bd_mono {g : St} {k n n2 : Int} (h : n ≤ n2) (hb : bd g k n) : bd g k n2 := ⟨fun p q a b c d => by have := hb.1 p q a b c d; omega, by have := hb.2; omega⟩
theorem fx_bd {cl : E5 → Bool} {pp : Int → Int} {ball : Int} (S : AS) (x : E5) (p q : Int) : S.1 p q ≤ (fx cl pp ball S x).1 p q ∧ (fx cl pp ball S x).1 p q ≤ S.1 p q + (if x.1 = p then 1 else 0) := by
  unfold fx bm
  (repeat' split) <;> simp only [] <;> (repeat' split) <;> omega
theorem fold_bd {cl : E5 → Bool} {pp : Int → Int} {ball : Int} (p q : Int) : ∀ (l : List E5) (S : AS), S.1 p q ≤ (l.foldl (fx cl pp ball) S).1 p q ∧ (l.foldl (fx cl pp ball) S).1 p q ≤ S.1 p q + (l.countP (ofP p) : Nat)
  | [], S => by simp
  | x :: l, S => by
    have h1 := fx_bd (cl := cl) (pp := pp) (ball := ball) S x p q
    have h2 := fold_bd (cl := cl) (pp := pp) (ball := ball) p q l (fx cl pp ball S x)
    rw [List.foldl_cons, List.countP_cons]
    by_cases hx : x.1 = p
    · rw [if_pos hx] at h1
      rw [if_pos (show ofP p x = true from decide_eq_true hx)]; omega
    · rw [if_neg hx] at h1
      rw [if_neg (show ¬ ofP p x = true from fun h => hx (of_decide_eq_true h))]; omega
theorem ca_bd {g : St} {b p q : Int} (hb : 0 ≤ b ∧ b ≤ g 1 0 0 2) (h6 : c6 g) (h0 : 0 ≤ p) (h4 : p < 4) : g 6 0 p q ≤ (caN (tbG g 0) 0 b.toNat).1 6 0 p q ∧ (caN (tbG g 0) 0 b.toNat).1 6 0 p q ≤ g 6 0 p q + 6 := by
  have e0 : els (tbG g 0) 0 = els g 0 := els_x (tbG_2 g 0) (tbG_f _ _ (by decide) (by decide)) (tbG_f _ _ (by decide) (by decide))
  have cf := (ca_fold (tbG g 0) 0 b.toNat (by rw [tbG_2]; omega)).1
  rw [e0] at cf
  have hf := fold_bd (cl := clL (els g 0)) (pp := fun p => tbG g 0 6 0 p 0) (ball := tbG g 0 3 0 0 0) p q ((els g 0).take b.toNat) (asC 0 (tbG g 0, 0))
  rw [← cf] at hf
  have h1 : (asC 0 (caN (tbG g 0) 0 b.toNat)).1 p q = (caN (tbG g 0) 0 b.toNat).1 6 0 p q := rfl
  have h2 : (asC 0 (tbG g 0, 0)).1 p q = g 6 0 p q := by show tbG g 0 6 0 p q = _; rw [tbG_f _ _ (by decide) (by decide)]
  rw [h1, h2] at hf
  have hc := (List.take_sublist b.toNat (els g 0)).countP_le (p := ofP p)
  have h6' := h6 p h0 h4
  rw [eOf_els] at h6'
  omega
theorem bd_turn {g u : St} {n z : Int} (hc : 0 ≤ g 1 0 0 0) (h6 : c6 g) (h : tr g u 0 z) (hb : bd g 0 n) : bd u 0 n := by
  obtain ⟨b, hb1, -, -, -, v, ⟨h1, -⟩, rfl⟩ := h
  have e10 : up v 1 0 0 2 ((caN (tbG g 0) 0 b.toNat).1 1 0 0 2 - b) 1 0 0 0 = g 1 0 0 0 + 1 := by
    rw [up_i (by decide), h1 1 0 0 0 (by omega), caN_f _ _ (by decide) (by decide), tbG_0]
  have e11 : up v 1 0 0 2 ((caN (tbG g 0) 0 b.toNat).1 1 0 0 2 - b) 1 0 0 1 = g 1 0 0 1 := by
    rw [up_i (by decide), h1 1 0 0 1 (by omega), caN_f _ _ (by decide) (by decide), tbG_1]
  refine ⟨fun p q a b2 c d => ?_, by rw [e11]; exact hb.2⟩
  have x := ca_bd (q := q) hb1 h6 a b2
  have y := hb.1 p q a b2 c d
  rw [e10, up_f (by decide), h1 6 0 p q (by omega)]
  omega
theorem bd_trs : ∀ (m : Nat) {g u : St} {n z : Int}, wf g 0 1 → c6 g → g 1 0 0 0 + m ≤ 100000 → trs 0 m g u z → bd g 0 n → bd u 0 n
  | 0, g, u, n, z, _, _, _, h, hb => by obtain ⟨rfl, -⟩ := h; exact hb
  | m + 1, g, u, n, z, hw, h6, hc, h, hb => by
    obtain ⟨v, y, x, h1, h2, -⟩ := h
    have o := trs_ok m hw h6 (by omega) h1
    have hcl := o.1.2.2.2.2.2.2.1
    exact bd_turn hcl.1 o.2.2.1 h2 (bd_trs m hw h6 (by omega) h1 hb)
theorem bd_se {g u : St} {p w n z : Int} (hp : 0 ≤ p ∧ p < 4) (h : se g u 0 p w z) (hb : bd g 0 n) : bd u 0 (n + 1) := by
  rcases h with ⟨-, -, rfl⟩ | ⟨-, -, a, b, -, -, rfl⟩
  · refine ⟨fun q x a b c d => ?_, by rw [up_s]; have := hb.2; omega⟩
    rw [up_f (by decide), up_i (by decide)]
    have := hb.1 q x a b c d; omega
  · have s1 : seG g 0 p 1 = g 1 := seG_f _ _ _ (by decide)
    refine ⟨fun q x a1 b1 c d => ?_, ?_⟩
    · rw [adf _ _ _ _ _ _ (by decide) (by decide) (by decide), adf _ _ _ _ _ _ (by decide) (by decide) (by decide), ad1, if_neg (by decide), ad1, if_neg (by decide), s1]
      have h1 := hb.1 q x a1 b1 c d
      unfold seG
      by_cases hx : q = p ∧ x = 2
      · obtain ⟨rfl, rfl⟩ := hx; rw [up_s]; omega
      · by_cases hqp : q = p
        · rw [up_i (by omega)]; omega
        · rw [up_j hqp]; omega
    · rw [ad1, if_neg (by decide), ad1, if_neg (by decide), s1]
      have := hb.2; omega
theorem bd_mv {g : St} {p b n : Int} (hb : bd g 0 n) : bd (mvG g 0 p b) 0 (n + 1) := by
  unfold mvG; split
  · refine ⟨fun q x a b c d => ?_, by rw [up_s]; have := hb.2; omega⟩
    rw [up_f (by decide), up_i (by decide)]
    have := hb.1 q x a b c d; omega
  · refine ⟨fun q x a b c d => ?_, by rw [up_f (by decide)]; have := hb.2; omega⟩
    rw [up_i (by omega), up_f (by decide)]
    have := hb.1 q x a b c d; omega
theorem bd_do {g u : St} {i n z : Int} (hw : wf g 0 1) (h6 : c6 g) (hv : vC g i) (h : do1 g u i z) (hb : bd g 0 n) : bd u 0 (n + 1) := by
  rcases h with ⟨h1, y, h2, rfl⟩ | ⟨h1, rfl, rfl⟩ | ⟨⟨h1, h1b⟩, ⟨-, rfl, rfl⟩ | ⟨h2, rfl, y, h3⟩⟩
  · exact bd_se (hv.1 h1).1 h2 hb
  · exact bd_mv hb
  · exact bd_mono (by omega) hb
  · have a := hv.2.2 h1 h1b
    exact bd_mono (by omega) (bd_trs _ hw h6 (by omega) h3 hb)
/-- a run, in the class -/
theorem rn_ok : ∀ (n : Nat) {g u : St} {i z b : Int}, wf g 0 1 → c6 g → wt g → (stN (g 13 0 0) (g 12 0 0 1).toNat = 9 ∨ stN (g 13 0 0) (g 12 0 0 1).toNat = 8) → 0 ≤ i → bd g 0 b → rnC n g i u z → wf u 0 1 ∧ c6 u ∧ bd u 0 (b + n)
  | 0, g, u, i, z, b, hw, h6, _, _, _, hb, h => by obtain ⟨rfl, -⟩ := h; exact ⟨hw, h6, bd_mono (by omega) hb⟩
  | n + 1, g, u, i, z, b, hw, h6, ht, ha, h0, hb, h => by
    rcases h with ⟨-, rfl, -⟩ | ⟨-, -, h⟩ | ⟨hi, hs, v, c, h1, hr⟩
    · exact ⟨hw, h6, bd_mono (by omega) hb⟩
    · have := rn_ok n hw h6 ht ha (by omega) hb h
      exact ⟨this.1, this.2.1, bd_mono (by omega) this.2.2⟩
    · have hv : vC g i := vC_of ht ha rfl rfl h0 hi hs
      have o := do1_ok hw h6 hv h1
      have hb2 := bd_do hw h6 hv h1 hb
      rcases hr with ⟨-, rfl, -⟩ | ⟨-, y, h2, -⟩
      · exact ⟨o.1, o.2.1, bd_mono (by omega) hb2⟩
      · have e12 := o.2.2.1 12 (by decide)
        have e13 := o.2.2.1 13 (by decide)
        have := rn_ok n o.1 o.2.1 (by unfold wt; rw [e12, e13]; exact ht) (by rw [e12, e13]; exact ha) (by omega) hb2 h2
        exact ⟨this.1, this.2.1, bd_mono (by omega) this.2.2⟩
/-! the reference's frame -/
def fm (g u : St) : Prop := (∀ x, (x < 8 ∨ 13 < x) → u 14 0 0 x = g 14 0 0 x) ∧ ∀ f : Nat, f ≠ 14 → f ≠ 15 → u f = g f
theorem fm_re (g : St) : fm g g := ⟨fun _ _ => rfl, fun _ _ _ => rfl⟩
theorem fm_tr {g u v : St} (h : fm g u) (h2 : fm u v) : fm g v := ⟨fun x hx => (h2.1 x hx).trans (h.1 x hx), fun f a b => (h2.2 f a b).trans (h.2 f a b)⟩
theorem fm_14 {g u : St} (h : f14 g u) : fm g u := ⟨fun x hx => h.1 x (by omega) (by omega), h.2⟩
theorem fm_at (g : St) : fm g (atS g) := ⟨fun x hx => at_x (by omega), fun f a b => up_ff a⟩
theorem fm_up {g : St} {i v : Int} (h : 8 ≤ i ∧ i ≤ 13) : fm g (up g 14 0 0 i v) := ⟨fun x hx => up_i (by omega), fun f a b => up_ff a⟩
theorem fm_fw {g u : St} (h : fw g u) : fm g u := ⟨fun x hx => h.2.2 14 0 0 x (by omega), fun f a b => by funext k j i; exact h.2.2 f k j i (by omega)⟩
theorem rnM_ok : ∀ (n : Nat) {m : St}, rI m → fm m (rnM n m).1 ∧ rI (rnM n m).1
  | 0, m, h => ⟨fm_re m, h⟩
  | n + 1, m, h => by
    have hfw := fw_ro h.1
    have hr := rI_ro h
    have h7 := h.1.1
    rw [rnM]
    by_cases c1 : ¬ m 14 0 0 8 < m 14 0 0 7
    · rw [if_pos c1]; exact ⟨fm_re m, h⟩
    · have h8 : roG m 14 0 0 8 ≤ 60 := by have := hfw.2.1; omega
      rw [if_neg c1]
      by_cases c2 : roR m = 0
      · rw [if_pos c2]; exact ⟨fm_tr (fm_fw hfw) (fm_at _), rI_at hr (by omega)⟩
      · have hv := vO_ro h.1 c2
        have hd := rI_do hr hv
        have f := f14_do hr.2.1 hv
        have hat := rI_at hd (by rw [f.1 8 (by decide) (by decide)]; omega)
        have ff := fm_tr (fm_tr (fm_fw hfw) (fm_14 f)) (fm_at _)
        rw [if_neg c2]
        by_cases c3 : doR (roG m) = 0
        · rw [if_pos c3]; exact ⟨ff, hat⟩
        · rw [if_neg c3]
          have ih := rnM_ok n hat
          exact ⟨fm_tr ff ih.1, ih.2⟩
/-- an order, in both -/
theorem do_S {g u m : St} {i z : Int} (hw : wf g 0 1) (h6 : c6 g) (hR : tieS g 0 m) (hv : vC g i) (ho : oTie g m i) (h : do1 g u i z) : tieS u 0 (doM m) ∧ z = doR m := by
  have r3 := hR.1.2.1.1
  unfold doM doR
  rw [ho.1]
  rcases h with ⟨h1, y, h2, rfl⟩ | ⟨h1, rfl, rfl⟩ | ⟨⟨h1, h1b⟩, ⟨hn, rfl, rfl⟩ | ⟨h2, rfl, y, h3⟩⟩
  · have a := hv.1 h1
    have o := ho.2.1 h1
    have s := se_S hw h6 a.1 a.2 hR h2
    rw [if_pos h1, if_pos h1, o.1, o.2, s.2]
    exact ⟨s.1, rfl⟩
  · have a := hv.2.1 h1
    have o := ho.2.2.1 h1
    have s := mv_S (b := oSt g i) a.1 hR
    have n99 : ¬ cdA g i = 99 := by omega
    rw [if_neg n99, if_pos h1, if_neg n99, if_pos h1, o.1, o.2, s.2]
    exact ⟨s.1, rfl⟩
  · have o := ho.2.2.2 h1 h1b
    rw [if_neg h1, if_neg h1b, if_neg h1, if_neg h1b, o, if_neg (by omega), if_neg (by omega)]
    exact ⟨hR, rfl⟩
  · have a := hv.2.2 h1 h1b
    have o := ho.2.2.2 h1 h1b
    have s := trs_S (oTu g i).toNat hw h6 (by omega) hR h3
    rw [if_neg h1, if_neg h1b, if_neg h1, if_neg h1b, o, if_pos (by omega), if_pos (by omega)]
    exact ⟨s.1, rfl⟩
theorem rn_skip {g u : St} {z Q : Int} : ∀ (d n : Nat) {i : Int}, i + d = Q → 0 < i → Q ≤ g 12 0 0 1 → (∀ j, i ≤ j → j < Q → cdA g (j - 1) ≠ 59) → g 12 0 0 1 - i ≤ n → rnC n g i u z → ∃ n2 : Nat, g 12 0 0 1 - Q ≤ n2 ∧ rnC n2 g Q u z
  | 0, n, i, hi, _, _, _, hn, h => by
    have : i = Q := by omega
    subst this; exact ⟨n, hn, h⟩
  | d + 1, n, i, hi, h0, hQ, hj, hn, h => by
    cases n with
    | zero => omega
    | succ n =>
      rcases h with ⟨h1, -, -⟩ | ⟨-, -, h⟩ | ⟨-, hs, -⟩
      · omega
      · exact rn_skip d n (by omega) (by omega) hQ (fun j a b => hj j (by omega) b) (by omega) h
      · rcases hs with hs | hs
        · omega
        · exact absurd hs (hj i (Int.le_refl i) (by omega))
theorem oT_of {g m u : St} {P Q : Int} (h7 : g 12 0 0 1 = m 14 0 0 7) (hl : g 12 0 0 1 ≤ 60) (hc : ∀ i, 0 ≤ i → i < 60 → g 13 0 0 i = m 19 0 0 i) (h0 : 0 ≤ P) (h : ROK m u P Q) : oTie g u P := by
  obtain ⟨hq, h1, h2, h3, h4, h5, h6, hm, ht⟩ := h
  have ca : ∀ j, 0 ≤ j → j < m 14 0 0 7 → cdA g j = nX m j := fun j a b => by
    unfold cdA nX; rw [if_pos (by omega), if_pos b, hc j a (by omega)]
  have cn' : ∀ j, 0 ≤ j → (isDg (cdA g j) ↔ isDg (nX m j)) ∧ (isDg (nX m j) → cdA g j = nX m j) := fun j a => by
    by_cases hj : j < m 14 0 0 7
    · rw [ca j a hj]; exact ⟨Iff.rfl, fun _ => rfl⟩
    · have e1 : cdA g j = -1 := by unfold cdA; rw [if_neg (by omega)]
      have e2 : nX m j = 0 := by unfold nX; rw [if_neg hj]
      rw [e1, e2]
      exact ⟨⟨fun h => by unfold isDg at h; omega, fun h => by unfold isDg at h; omega⟩, fun h => by unfold isDg at h; omega⟩
  have e0 := ca P h0 (by omega)
  unfold oTie
  rw [e0]
  refine ⟨h5, fun hx => ?_, fun hx => ?_, fun a b => ?_⟩
  · obtain ⟨l, a, b⟩ := h6 hx
    rw [ca (P + 1) (by omega) (by omega), ca (P + 3) (by omega) l]; exact ⟨a, b⟩
  · obtain ⟨l, a, b⟩ := hm hx
    unfold oSt
    rw [ca (P + 1) (by omega) (by omega), ca (P + 2) (by omega) (by omega), show P + 2 + 1 = P + 3 by omega, ca (P + 3) (by omega) l]; exact ⟨a, b⟩
  · obtain ⟨l, c⟩ := ht a b
    have d := cn' (P + 2) (by omega)
    unfold oTu
    rw [ca (P + 1) (by omega) l, show P + 1 + 1 = P + 2 by omega, c]
    by_cases hd : isDg (nX m (P + 2))
    · rw [if_pos hd, if_pos (d.1.mpr hd), d.2 hd]
    · rw [if_neg hd, if_neg (fun hx => hd (d.1.mp hx))]
/-- a run, in both -/
theorem rn_S : ∀ (N n : Nat) {g u m : St} {P z : Int}, wf g 0 1 → c6 g → wt g → tieS g 0 m → rI m → g 12 0 0 1 = m 14 0 0 7 → (∀ i, 0 ≤ i → i < 60 → g 13 0 0 i = m 19 0 0 i) → (stN (m 19 0 0) (m 14 0 0 7).toNat = 9 ∨ stN (m 19 0 0) (m 14 0 0 7).toNat = 8) → m 14 0 0 8 = P → 0 ≤ P → (P < m 14 0 0 7 → stN (m 19 0 0) P.toNat = 0 ∧ (P = 0 ∨ cdA g (P - 1) = 59)) → m 14 0 0 7 - P < N → m 14 0 0 7 - P ≤ n → rnC n g P u z → tieS u 0 (rnM N m).1 ∧ z = (rnM N m).2
  | 0, n, g, u, m, P, z, hw, h6, ht, hR, hI, h7, hc, ha, hP, h0, hs, hN, hn, h => by
    have e := rnM_e (g := m) (by omega) 0
    rw [e]
    cases n with
    | zero => obtain ⟨rfl, rfl⟩ := h; exact ⟨hR, rfl⟩
    | succ n =>
      rcases h with ⟨-, rfl, rfl⟩ | ⟨h1, -⟩ | ⟨h1, -⟩
      · exact ⟨hR, rfl⟩
      · omega
      · omega
  | N + 1, n, g, u, m, P, z, hw, h6, ht, hR, hI, h7, hc, ha, hP, h0, hs, hN, hn, h => by
    by_cases hE : m 14 0 0 7 ≤ P
    · rw [rnM_e (by omega)]
      cases n with
      | zero => obtain ⟨rfl, rfl⟩ := h; exact ⟨hR, rfl⟩
      | succ n =>
        rcases h with ⟨-, rfl, rfl⟩ | ⟨h1, -⟩ | ⟨h1, -⟩
        · exact ⟨hR, rfl⟩
        · omega
        · omega
    · obtain ⟨hs1, hs2⟩ := hs (by omega)
      cases n with
      | zero => omega
      | succ n =>
        have hl := ht.1
        have es : ∀ q : Nat, (q : Int) ≤ 60 → stN (g 13 0 0) q = stN (m 19 0 0) q := fun q hq => stN_cg q (fun i a b => hc i a (by omega))
        have haC : stN (g 13 0 0) (g 12 0 0 1).toNat = 9 ∨ stN (g 13 0 0) (g 12 0 0 1).toNat = 8 := by rw [es _ (by omega), h7]; exact ha
        have hok : stN (m 19 0 0) (m 14 0 0 7).toNat ≠ -1 := by omega
        rcases h with ⟨h1, -⟩ | ⟨-, h1, -⟩ | ⟨-, -, v, b, hd, hr⟩
        · omega
        · exact absurd hs2 h1
        · rcases ro_spec hP h0 (by omega) hs1 with ⟨r, Q, hq, hPQ, hfl⟩ | ⟨r, Q, hK⟩
          · exfalso
            rcases hfl with ⟨rfl, -, h8, h9⟩ | ⟨hl1, -, h9⟩
            · exact ha.elim h9 h8
            · exact stN_ok hok (n := (Q + 1).toNat) (by omega) h9
          · have hv : vC g P := vC_of ht haC rfl rfl h0 (by omega) hs2
            have ho := oT_of h7 hl.2 hc h0 hK
            obtain ⟨hq, hPQ, hQn, hst, h59, -⟩ := hK
            have hRr : tieS g 0 (roG m) := tieS_m (ro_15 hI.1) hR
            have dS := do_S hw h6 hRr hv ho hd
            have o := do1_ok hw h6 hv hd
            have rI1 := rI_ro hI
            have hvO := vO_ro hI.1 (by omega)
            have f := f14_do rI1.2.1 hvO
            have rI2 := rI_do rI1 hvO
            have h7b : (m 14 0 0 7) ≤ 60 := by omega
            have rI3 := rI_at rI2 (by rw [f.1 8 (by decide) (by decide), hq.1]; omega)
            have t15 : atS (doM (roG m)) 15 = doM (roG m) 15 := up_ff (by decide)
            rw [rnM, if_neg (by omega), if_neg (by omega)]
            rcases hr with ⟨rfl, rfl, rfl⟩ | ⟨rfl, y, h2, rfl⟩
            · rw [if_pos dS.2.symm]
              exact ⟨tieS_m t15 dS.1, rfl⟩
            · rw [if_neg (by omega)]
              have e12 := o.2.2.1 12 (by decide)
              have e13 := o.2.2.1 13 (by decide)
              have k7 : atS (doM (roG m)) 14 0 0 7 = m 14 0 0 7 := by rw [at_x (by decide), f.1 7 (by decide) (by decide), hq.2.1]
              have k19 : atS (doM (roG m)) 19 = m 19 := by
                rw [show atS (doM (roG m)) 19 = doM (roG m) 19 from up_ff (by decide), f.2 19 (by decide) (by decide), hq.2.2]
              have k8 : atS (doM (roG m)) 14 0 0 8 = Q + 1 := by
                show up _ 14 0 0 8 _ 14 0 0 8 = _
                rw [up_s, f.1 8 (by decide) (by decide), hq.1]
              have cd : ∀ j, cdA v j = cdA g j := cdA_eq e12 e13
              have ca : ∀ j, 0 ≤ j → j < m 14 0 0 7 → cdA g j = m 19 0 0 j := fun j a b => by
                unfold cdA; rw [if_pos (by omega), hc j a (by omega)]
              have fin : ∀ (n2 : Nat) (yy : Int), m 14 0 0 7 - (Q + 1) ≤ n2 → rnC n2 v (Q + 1) u yy → tieS u 0 (rnM N (atS (doM (roG m)))).1 ∧ yy = (rnM N (atS (doM (roG m)))).2 := fun n2 yy hn2 hrn => by
                refine rn_S N n2 (P := Q + 1) o.1 o.2.1 (by unfold wt; rw [e12, e13]; exact ht) (tieS_m t15 dS.1) rI3 (by rw [e12, k7]; exact h7) (by rw [e13, k19]; exact hc) (by rw [k7, k19]; exact ha) k8 (by omega) ?_ (by rw [k7]; omega) (by rw [k7]; omega) hrn
                rw [k7, k19]
                intro hQ1
                have xQ : nX m Q = m 19 0 0 Q := if_pos (by omega)
                have ok2 : stN (m 19 0 0) (Q + 1).toNat ≠ -1 := stN_ok hok (by omega)
                have c59 : m 19 0 0 Q = 59 := by
                  rw [stN_s (by omega)] at ok2
                  rcases hst with hh | ⟨hh, hd2⟩
                  · rw [hh, sa_9] at ok2
                    unfold saO at ok2
                    exact Decidable.byContradiction (fun hx => ok2 (if_neg hx))
                  · rw [xQ] at hd2
                    rw [hh, sa_8, if_neg hd2] at ok2
                    unfold saO at ok2
                    exact Decidable.byContradiction (fun hx => ok2 (if_neg hx))
                refine ⟨?_, Or.inr ?_⟩
                · rw [stN_s (by omega), c59]
                  rcases hst with hh | ⟨hh, -⟩
                  · rw [hh]; rfl
                  · rw [hh]; rfl
                · rw [cd, show Q + 1 - 1 = Q by omega, ca Q (by omega) (by omega)]; exact c59
              have res : ∃ yy, tieS u 0 (rnM N (atS (doM (roG m)))).1 ∧ y = (rnM N (atS (doM (roG m)))).2 ∧ yy = y := by
                by_cases hQE : Q = m 14 0 0 7
                · -- the last order
                  obtain ⟨n2, hn2, hrn⟩ := rn_skip (g := v) (Q := Q) (Q - (P + 1)).toNat n (i := P + 1) (by omega) (by omega) (by rw [e12]; omega) (fun j a b => by
                    rw [cd, ca (j - 1) (by omega) (by omega)]; exact h59 (j - 1) (by omega) (by omega)) (by rw [e12]; omega) h2
                  have e : rnC n2 v (Q + 1) u y := by
                    cases n2 with
                    | zero => exact hrn
                    | succ n2 =>
                      rcases hrn with ⟨q1, q2, q3⟩ | ⟨q1, -⟩ | ⟨q1, -⟩
                      · exact Or.inl ⟨by omega, q2, q3⟩
                      · rw [e12] at q1; omega
                      · rw [e12] at q1; omega
                  have x := fin n2 y (by omega) e
                  exact ⟨y, x.1, x.2, rfl⟩
                · obtain ⟨n2, hn2, hrn⟩ := rn_skip (g := v) (Q := Q + 1) (Q - P).toNat n (i := P + 1) (by omega) (by omega) (by rw [e12]; omega) (fun j a b => by
                    rw [cd, ca (j - 1) (by omega) (by omega)]; exact h59 (j - 1) (by omega) (by omega)) (by rw [e12]; omega) h2
                  have x := fin n2 y (by rw [e12] at hn2; omega) hrn
                  exact ⟨y, x.1, x.2, rfl⟩
              obtain ⟨yy, x1, x2, -⟩ := res
              exact ⟨x1, by show y + 1 = 1 + _; rw [x2]; omega⟩
