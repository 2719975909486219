/-! what stays as it is: the other canyons, the text, the reference -/
def fr (g u : St) : Prop := (∀ (f : Nat) (k : Int), k ≠ 0 → u f k = g f k) ∧ ∀ f : Nat, 8 ≤ f → u f = g f
theorem fr_re (g : St) : fr g g := ⟨fun _ _ _ => rfl, fun _ _ => rfl⟩
theorem fr_tr {g u v : St} (h : fr g u) (h2 : fr u v) : fr g v := ⟨fun f k hk => (h2.1 f k hk).trans (h.1 f k hk), fun f hf => (h2.2 f hf).trans (h.2 f hf)⟩
theorem fr_up {g : St} {f : Nat} {j i v : Int} (hf : f < 8) : fr g (up g f 0 j i v) := ⟨fun f' k hk => by funext j' i'; exact up_k hk, fun f' hf' => up_ff (by omega)⟩
theorem fr_bl (g : St) (p r : Int) : fr g (bl g 0 p r) := ⟨fun f k hk => by funext j i; simp only [bl]; rw [if_neg (fun h => hk h.2.1), if_neg (fun h => hk h.2.1)], fun f hf => by funext k j i; simp only [bl]; rw [if_neg (fun h => by omega), if_neg (fun h => by omega)]⟩
theorem fr_ec (g : St) (p w y : Int) : fr g (ecG g 0 p w y) := by
  unfold ecG
  exact fr_tr (fr_up (by decide)) (fr_tr (fr_up (by decide)) (fr_tr (fr_up (by decide)) (fr_tr (fr_up (by decide)) (fr_up (by decide)))))
theorem fr_sh (g : St) (n a : Int) : fr g (shG g 0 n a) := ⟨fun f k hk => by funext j i; simp only [shG]; rw [if_neg (fun h => hk h.2.1)], fun f hf => by funext k j i; simp only [shG]; rw [if_neg (fun h => by omega)]⟩
theorem fr_ad (g : St) (p w y a : Int) : fr g (adG g 0 p w y a) := by
  unfold adG
  exact fr_tr (fr_ec g p w y) (fr_tr (fr_sh _ _ _) (fr_tr (fr_up (by decide)) (fr_up (by decide))))
theorem fr_ic (g : St) (r : Int) : fr g (icG g 0 r) := by
  unfold icG; (repeat' split)
  · exact fr_up (by decide)
  · exact fr_up (by decide)
  · exact fr_up (by decide)
  · exact fr_tr (fr_up (by decide)) (fr_tr (fr_up (by decide)) (fr_tr (fr_up (by decide)) (fr_up (by decide))))
theorem fr_ca (g : St) : ∀ n : Nat, fr g (caN g 0 n).1
  | 0 => fr_re g
  | n + 1 => by rw [caN]; exact fr_tr (fr_ca g n) (fr_ic _ _)
theorem fr_tb (g : St) : fr g (tbG g 0) := by unfold tbG; exact fr_tr (fr_up (by decide)) (fr_bl _ _ _)
theorem fr_turn {g u : St} {z : Int} (h : tr g u 0 z) : fr g u := by
  obtain ⟨b, -, -, -, -, v, ⟨h1, -⟩, rfl⟩ := h
  refine fr_tr (fr_tr (fr_tb g) (fr_ca _ b.toNat)) (fr_tr (u := v) ⟨fun f k hk => ?_, fun f hf => ?_⟩ (fr_up (by decide)))
  · funext j i; exact h1 f k j i (fun hx => hk hx.2)
  · funext k j i; exact h1 f k j i (fun hx => by omega)
theorem fr_trs : ∀ (n : Nat) {g u : St} {z : Int}, trs 0 n g u z → fr g u
  | 0, g, u, z, h => by obtain ⟨rfl, -⟩ := h; exact fr_re _
  | n + 1, g, u, z, h => by obtain ⟨v, y, x, h1, h2, -⟩ := h; exact fr_tr (fr_trs n h1) (fr_turn h2)
theorem fr_se {g u : St} {p w z : Int} (h : se g u 0 p w z) : fr g u := by
  rcases h with ⟨-, -, rfl⟩ | ⟨-, -, a, b, -, -, rfl⟩
  · exact fr_up (by decide)
  · exact fr_tr (fr_tr (fr_up (by decide)) (fr_ad _ _ _ _ _)) (fr_ad _ _ _ _ _)
theorem fr_mv (g : St) (p b : Int) : fr g (mvG g 0 p b) := by unfold mvG; split <;> exact fr_up (by decide)
theorem fr_do {g u : St} {i z : Int} (h : do1 g u i z) : fr g u := by
  rcases h with ⟨-, y, h2, -⟩ | ⟨-, rfl, -⟩ | ⟨-, ⟨-, rfl, -⟩ | ⟨-, -, y, h3⟩⟩
  · exact fr_se h2
  · exact fr_mv _ _ _
  · exact fr_re _
  · exact fr_trs _ h3
theorem fr_rn : ∀ (n : Nat) {g u : St} {i z : Int}, rnC n g i u z → fr g u
  | 0, g, u, i, z, h => by obtain ⟨rfl, -⟩ := h; exact fr_re _
  | n + 1, g, u, i, z, h => by
    rcases h with ⟨-, rfl, -⟩ | ⟨-, -, h⟩ | ⟨-, -, v, b, h1, ⟨-, rfl, -⟩ | ⟨-, y, h2, -⟩⟩
    · exact fr_re _
    · exact fr_rn n h
    · exact fr_do h1
    · exact fr_tr (fr_do h1) (fr_rn n h2)
/-! bounds of what is counted -/
def bd (g : St) (k n : Int) : Prop := (∀ p q, 0 ≤ p → p < 4 → 1 ≤ q → q ≤ 5 → 0 ≤ g 6 k p q ∧ g 6 k p q ≤ 6 * g 1 k 0 0 + n) ∧ 0 ≤ g 1 k 0 1 ∧ g 1 k 0 1 ≤ n
theorem bd_mono {g : St} {k n n2 : Int} (h : n ≤ n2) (hb : bd g k n) : bd g k n2 := ⟨fun p q a b c d => by have := hb.1 p q a b c d; omega, by have := hb.2; omega⟩
theorem fx_bd {cl : E5 → Bool} {pp : Int → Int} {ball : Int} (S : AS) (x : E5) (p q : Int) : S.1 p q ≤ (fx cl pp ball S x).1 p q ∧ (fx cl pp ball S x).1 p q ≤ S.1 p q + (if x.1 = p then 1 else 0) := by
  unfold fx bm
  (repeat' split) <;> simp only [] <;> (repeat' split) <;> omega
theorem fold_bd {cl : E5 → Bool} {pp : Int → Int} {ball : Int} (p q : Int) : ∀ (l : List E5) (S : AS), S.1 p q ≤ (l.foldl (fx cl pp ball) S).1 p q ∧ (l.foldl (fx cl pp ball) S).1 p q ≤ S.1 p q + (l.countP (ofP p) : Nat)
  | [], S => by simp
  | x :: l, S => by
    have h1 := fx_bd (cl := cl) (pp := pp) (ball := ball) S x p q
    have h2 := fold_bd (cl := cl) (pp := pp) (ball := ball) p q l (fx cl pp ball S x)
    rw [List.foldl_cons, List.countP_cons]
    by_cases hx : x.1 = p
    · rw [if_pos hx] at h1
      rw [if_pos (show ofP p x = true from decide_eq_true hx)]; omega
    · rw [if_neg hx] at h1
      rw [if_neg (show ¬ ofP p x = true from fun h => hx (of_decide_eq_true h))]; omega
theorem ca_bd {g : St} {b p q : Int} (hb : 0 ≤ b ∧ b ≤ g 1 0 0 2) (h6 : c6 g) (h0 : 0 ≤ p) (h4 : p < 4) : g 6 0 p q ≤ (caN (tbG g 0) 0 b.toNat).1 6 0 p q ∧ (caN (tbG g 0) 0 b.toNat).1 6 0 p q ≤ g 6 0 p q + 6 := by
  have e0 : els (tbG g 0) 0 = els g 0 := els_x (tbG_2 g 0) (tbG_f _ _ (by decide) (by decide)) (tbG_f _ _ (by decide) (by decide))
  have cf := (ca_fold (tbG g 0) 0 b.toNat (by rw [tbG_2]; omega)).1
  rw [e0] at cf
  have hf := fold_bd (cl := clL (els g 0)) (pp := fun p => tbG g 0 6 0 p 0) (ball := tbG g 0 3 0 0 0) p q ((els g 0).take b.toNat) (asC 0 (tbG g 0, 0))
  rw [← cf] at hf
  have h1 : (asC 0 (caN (tbG g 0) 0 b.toNat)).1 p q = (caN (tbG g 0) 0 b.toNat).1 6 0 p q := rfl
  have h2 : (asC 0 (tbG g 0, 0)).1 p q = g 6 0 p q := by show tbG g 0 6 0 p q = _; rw [tbG_f _ _ (by decide) (by decide)]
  rw [h1, h2] at hf
  have hc := (List.take_sublist b.toNat (els g 0)).countP_le (p := ofP p)
  have h6' := h6 p h0 h4
  rw [eOf_els] at h6'
  omega
theorem bd_turn {g u : St} {n z : Int} (hc : 0 ≤ g 1 0 0 0) (h6 : c6 g) (h : tr g u 0 z) (hb : bd g 0 n) : bd u 0 n := by
  obtain ⟨b, hb1, -, -, -, v, ⟨h1, -⟩, rfl⟩ := h
  have e10 : up v 1 0 0 2 ((caN (tbG g 0) 0 b.toNat).1 1 0 0 2 - b) 1 0 0 0 = g 1 0 0 0 + 1 := by
    rw [up_i (by decide), h1 1 0 0 0 (by omega), caN_f _ _ (by decide) (by decide), tbG_0]
  have e11 : up v 1 0 0 2 ((caN (tbG g 0) 0 b.toNat).1 1 0 0 2 - b) 1 0 0 1 = g 1 0 0 1 := by
    rw [up_i (by decide), h1 1 0 0 1 (by omega), caN_f _ _ (by decide) (by decide), tbG_1]
  refine ⟨fun p q a b2 c d => ?_, by rw [e11]; exact hb.2⟩
  have x := ca_bd (q := q) hb1 h6 a b2
  have y := hb.1 p q a b2 c d
  rw [e10, up_f (by decide), h1 6 0 p q (by omega)]
  omega
theorem bd_trs : ∀ (m : Nat) {g u : St} {n z : Int}, wf g 0 1 → c6 g → g 1 0 0 0 + m ≤ 100000 → trs 0 m g u z → bd g 0 n → bd u 0 n
  | 0, g, u, n, z, _, _, _, h, hb => by obtain ⟨rfl, -⟩ := h; exact hb
  | m + 1, g, u, n, z, hw, h6, hc, h, hb => by
    obtain ⟨v, y, x, h1, h2, -⟩ := h
    have o := trs_ok m hw h6 (by omega) h1
    have hcl := o.1.2.2.2.2.2.2.1
    exact bd_turn hcl.1 o.2.2.1 h2 (bd_trs m hw h6 (by omega) h1 hb)
theorem bd_se {g u : St} {p w n z : Int} (hp : 0 ≤ p ∧ p < 4) (h : se g u 0 p w z) (hb : bd g 0 n) : bd u 0 (n + 1) := by
  rcases h with ⟨-, -, rfl⟩ | ⟨-, -, a, b, -, -, rfl⟩
  · refine ⟨fun q x a b c d => ?_, by rw [up_s]; have := hb.2; omega⟩
    rw [up_f (by decide), up_i (by decide)]
    have := hb.1 q x a b c d; omega
  · have s1 : seG g 0 p 1 = g 1 := seG_f _ _ _ (by decide)
    refine ⟨fun q x a1 b1 c d => ?_, ?_⟩
    · rw [adf _ _ _ _ _ _ (by decide) (by decide) (by decide), adf _ _ _ _ _ _ (by decide) (by decide) (by decide), ad1, if_neg (by decide), ad1, if_neg (by decide), s1]
      have h1 := hb.1 q x a1 b1 c d
      unfold seG
      by_cases hx : q = p ∧ x = 2
      · obtain ⟨rfl, rfl⟩ := hx; rw [up_s]; omega
      · by_cases hqp : q = p
        · rw [up_i (by omega)]; omega
        · rw [up_j hqp]; omega
    · rw [ad1, if_neg (by decide), ad1, if_neg (by decide), s1]
      have := hb.2; omega
theorem bd_mv {g : St} {p b n : Int} (hb : bd g 0 n) : bd (mvG g 0 p b) 0 (n + 1) := by
  unfold mvG; split
  · refine ⟨fun q x a b c d => ?_, by rw [up_s]; have := hb.2; omega⟩
    rw [up_f (by decide), up_i (by decide)]
    have := hb.1 q x a b c d; omega
  · refine ⟨fun q x a b c d => ?_, by rw [up_f (by decide)]; have := hb.2; omega⟩
    rw [up_i (by omega), up_f (by decide)]
    have := hb.1 q x a b c d; omega
