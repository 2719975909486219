/-! the text of orders, by its places -/
theorem stN_m (c : Int → Int) (n : Nat) (h : stN c n = -1) : ∀ m, stN c (n + m) = -1
  | 0 => h
  | m + 1 => by
    rw [← Nat.add_assoc, stN, stN_m c n h m]
    unfold stA; simp
theorem stN_ok {c : Int → Int} {N : Nat} (h : stN c N ≠ -1) {n : Nat} (hn : n ≤ N) : stN c n ≠ -1 := fun hx => h (by
  have := stN_m c n hx (N - n)
  rw [show n + (N - n) = N by omega] at this; exact this)
theorem stA_59 (s : Int) : stA s 59 = 0 ∨ stA s 59 = -1 := by
  unfold stA saS saO isPl isDg
  (repeat' split) <;> omega
theorem saS_7 {c : Int} (h : saS c ≠ -1) (h1 : c ≠ 99) (h2 : c ≠ 109) : saS c = 7 := by
  unfold saS at *
  rw [if_neg h1, if_neg h2] at h ⊢
  by_cases h3 : c = 116
  · rw [if_pos h3]
  · rw [if_neg h3] at h; exact absurd rfl h
theorem stq_1 {c : Int} (h : stA 1 c ≠ -1) : isPl c ∧ stA 1 c = 2 := by
  have e : stA 1 c = if isPl c then 2 else -1 := by unfold stA; simp
  rw [e] at h ⊢
  by_cases hc : isPl c
  · rw [if_pos hc]; exact ⟨hc, rfl⟩
  · rw [if_neg hc] at h; exact absurd rfl h
theorem stq_2 {c : Int} (h : stA 2 c ≠ -1) : c = 61 ∧ stA 2 c = 3 := by
  have e : stA 2 c = if c = 61 then 3 else -1 := by unfold stA; simp
  rw [e] at h ⊢
  by_cases hc : c = 61
  · rw [if_pos hc]; exact ⟨hc, rfl⟩
  · rw [if_neg hc] at h; exact absurd rfl h
theorem stq_3 {c : Int} (h : stA 3 c ≠ -1) : isDg c ∧ stA 3 c = 9 := by
  have e : stA 3 c = if isDg c then 9 else -1 := by unfold stA; simp
  rw [e] at h ⊢
  by_cases hc : isDg c
  · rw [if_pos hc]; exact ⟨hc, rfl⟩
  · rw [if_neg hc] at h; exact absurd rfl h
theorem stq_4 {c : Int} (h : stA 4 c ≠ -1) : isPl c ∧ stA 4 c = 5 := by
  have e : stA 4 c = if isPl c then 5 else -1 := by unfold stA; simp
  rw [e] at h ⊢
  by_cases hc : isPl c
  · rw [if_pos hc]; exact ⟨hc, rfl⟩
  · rw [if_neg hc] at h; exact absurd rfl h
theorem stq_5 {c : Int} (h : stA 5 c ≠ -1) : (c = 43 ∨ c = 45) ∧ stA 5 c = 6 := by
  have e : stA 5 c = if c = 43 ∨ c = 45 then 6 else -1 := by unfold stA; simp
  rw [e] at h ⊢
  by_cases hc : c = 43 ∨ c = 45
  · rw [if_pos hc]; exact ⟨hc, rfl⟩
  · rw [if_neg hc] at h; exact absurd rfl h
theorem stq_6 {c : Int} (h : stA 6 c ≠ -1) : (isDg c ∧ c ≠ 48) ∧ stA 6 c = 9 := by
  have e : stA 6 c = if isDg c ∧ c ≠ 48 then 9 else -1 := by unfold stA; simp
  rw [e] at h ⊢
  by_cases hc : isDg c ∧ c ≠ 48
  · rw [if_pos hc]; exact ⟨hc, rfl⟩
  · rw [if_neg hc] at h; exact absurd rfl h
theorem stq_7 {c : Int} (h : stA 7 c ≠ -1) : (isDg c ∧ c ≠ 48) ∧ stA 7 c = 8 := by
  have e : stA 7 c = if isDg c ∧ c ≠ 48 then 8 else -1 := by unfold stA; simp
  rw [e] at h ⊢
  by_cases hc : isDg c ∧ c ≠ 48
  · rw [if_pos hc]; exact ⟨hc, rfl⟩
  · rw [if_neg hc] at h; exact absurd rfl h
theorem stN_st {c : Int → Int} {N : Nat} (h : stN c N ≠ -1) {i : Int} (h0 : 0 ≤ i) (hi : i ≤ N) (hs : i = 0 ∨ c (i - 1) = 59) : stN c i.toNat = 0 := by
  rcases hs with rfl | hs
  · rfl
  · by_cases hz : i = 0
    · subst hz; rfl
    · have e := stN_s (c := c) (i := i - 1) (by omega)
      rw [show i - 1 + 1 = i by omega, hs] at e
      have ok := stN_ok h (n := i.toNat) (by omega)
      have hin := stN_in c (i - 1).toNat
      rw [e] at ok ⊢
      exact (stA_59 _).resolve_right ok
theorem ps_ok {g : St} (ht : wt g) (ha : stN (g 13 0 0) (g 12 0 0 1).toNat = 9 ∨ stN (g 13 0 0) (g 12 0 0 1).toNat = 8) {i : Int} (h0 : 0 ≤ i) (hi : i < g 12 0 0 1) (hs : i = 0 ∨ cdA g (i - 1) = 59) :
    (cdA g i = 99 → (0 ≤ cdA g (i + 1) - 48 ∧ cdA g (i + 1) - 48 < 4) ∧ (0 ≤ cdA g (i + 3) - 48 ∧ cdA g (i + 3) - 48 ≤ 9)) ∧ (cdA g i = 109 → (0 ≤ cdA g (i + 1) - 48 ∧ cdA g (i + 1) - 48 < 4) ∧ (-9 ≤ oSt g i ∧ oSt g i ≤ 9)) ∧ (cdA g i ≠ 99 → cdA g i ≠ 109 → 1 ≤ oTu g i ∧ oTu g i ≤ 99) := by
  obtain ⟨hl, hc⟩ := ht
  obtain ⟨N, hN⟩ : ∃ N, N = (g 12 0 0 1).toNat := ⟨_, rfl⟩
  rw [← hN] at ha
  have hn1 : stN (g 13 0 0) N ≠ -1 := by omega
  have ca : ∀ j : Int, 0 ≤ j → j < g 12 0 0 1 → cdA g j = g 13 0 0 j := fun j a b => if_pos ⟨a, b⟩
  have s0 : stN (g 13 0 0) i.toNat = 0 := by
    refine stN_st hn1 h0 (by omega) ?_
    by_cases hz : i = 0
    · exact Or.inl hz
    · rcases hs with hs | hs
      · exact Or.inl hs
      · rw [ca (i - 1) (by omega) (by omega)] at hs; exact Or.inr hs
  have step : ∀ j : Int, 0 ≤ j → j < g 12 0 0 1 → stN (g 13 0 0) (j + 1).toNat = stA (stN (g 13 0 0) j.toNat) (cdA g j) ∧ stN (g 13 0 0) (j + 1).toNat ≠ -1 := fun j a b => ⟨by rw [stN_s a, ca j a b], stN_ok hn1 (by omega)⟩
  have fin : ∀ j : Int, 0 ≤ j → j ≤ g 12 0 0 1 → stN (g 13 0 0) j.toNat ≠ 8 → stN (g 13 0 0) j.toNat ≠ 9 → j < g 12 0 0 1 := fun j a b c d => by
    apply Decidable.byContradiction; intro hx
    rw [show j.toNat = N by omega] at c d; omega
  obtain ⟨e1, o1⟩ := step i h0 hi
  rw [s0] at e1
  have c1 : stN (g 13 0 0) (i + 1).toNat = saS (cdA g i) := by rw [e1]; unfold stA; rw [if_pos rfl]
  refine ⟨fun h => ?_, fun h => ?_, fun h99 h109 => ?_⟩
  · rw [h] at c1
    have v1 : stN (g 13 0 0) (i + 1).toNat = 1 := by rw [c1]; rfl
    obtain ⟨e2, o2⟩ := step (i + 1) (by omega) (fin (i + 1) (by omega) (by omega) (by omega) (by omega))
    have l1 := fin (i + 1) (by omega) (by omega) (by omega) (by omega)
    rw [v1] at e2
    have p1 : isPl (cdA g (i + 1)) ∧ stN (g 13 0 0) (i + 1 + 1).toNat = 2 := by
      rw [e2] at o2 ⊢; exact stq_1 o2
    have l2 := fin (i + 1 + 1) (by omega) (by omega) (by omega) (by omega)
    obtain ⟨e3, o3⟩ := step (i + 1 + 1) (by omega) l2
    rw [p1.2] at e3
    have p2 : stN (g 13 0 0) (i + 1 + 1 + 1).toNat = 3 := by
      rw [e3] at o3 ⊢; exact (stq_2 o3).2
    have l3 := fin (i + 1 + 1 + 1) (by omega) (by omega) (by omega) (by omega)
    obtain ⟨e4, o4⟩ := step (i + 1 + 1 + 1) (by omega) l3
    rw [p2] at e4
    have p3 : isDg (cdA g (i + 3)) := by
      rw [show i + 3 = i + 1 + 1 + 1 by omega]
      rw [e4] at o4; exact (stq_3 o4).1
    have p1' := p1.1
    unfold isPl at p1'; unfold isDg at p3; omega
  · rw [h] at c1
    have v1 : stN (g 13 0 0) (i + 1).toNat = 4 := by rw [c1]; rfl
    have l1 := fin (i + 1) (by omega) (by omega) (by omega) (by omega)
    obtain ⟨e2, o2⟩ := step (i + 1) (by omega) l1
    rw [v1] at e2
    have p1 : isPl (cdA g (i + 1)) ∧ stN (g 13 0 0) (i + 1 + 1).toNat = 5 := by
      rw [e2] at o2 ⊢; exact stq_4 o2
    have l2 := fin (i + 1 + 1) (by omega) (by omega) (by omega) (by omega)
    obtain ⟨e3, o3⟩ := step (i + 1 + 1) (by omega) l2
    rw [p1.2] at e3
    have p2 : stN (g 13 0 0) (i + 1 + 1 + 1).toNat = 6 := by
      rw [e3] at o3 ⊢; exact (stq_5 o3).2
    have l3 := fin (i + 1 + 1 + 1) (by omega) (by omega) (by omega) (by omega)
    obtain ⟨e4, o4⟩ := step (i + 1 + 1 + 1) (by omega) l3
    rw [p2] at e4
    have p3 : isDg (cdA g (i + 1 + 1 + 1)) := by
      rw [e4] at o4; exact (stq_6 o4).1.1
    have p1' := p1.1
    unfold isPl at p1'; unfold isDg at p3
    refine ⟨by omega, ?_⟩
    unfold oSt
    rw [show i + 2 + 1 = i + 1 + 1 + 1 by omega]
    split <;> omega
  · have v1 : stN (g 13 0 0) (i + 1).toNat = 7 := by
      rw [c1] at o1 ⊢; exact saS_7 o1 h99 h109
    have l1 := fin (i + 1) (by omega) (by omega) (by omega) (by omega)
    obtain ⟨e2, o2⟩ := step (i + 1) (by omega) l1
    rw [v1] at e2
    have p1 : isDg (cdA g (i + 1)) ∧ cdA g (i + 1) ≠ 48 := by
      rw [e2] at o2; exact (stq_7 o2).1
    have p1' := p1.1
    unfold isDg at p1'
    unfold oTu
    split
    · rename_i hd; unfold isDg at hd; omega
    · omega
/-! the echoes as a list -/
def ev (g : St) (k i : Int) : Int × Int × Int × Int × Int := (eF g k i 0, eF g k i 1, eF g k i 2, eF g k i 3, eF g k i 4)
def els (g : St) (k : Int) : List (Int × Int × Int × Int × Int) := (List.range (g 1 k 0 2).toNat).map (fun i : Nat => ev g k i)
theorem els_len (g : St) (k : Int) : (els g k).length = (g 1 k 0 2).toNat := by simp [els]
theorem els_get (g : St) (k : Int) (i : Nat) : (els g k)[i]? = if i < (g 1 k 0 2).toNat then some (ev g k i) else none := by
  unfold els
  rw [List.getElem?_map]
  split
  · rename_i h; rw [List.getElem?_range h]; rfl
  · rename_i h; rw [List.getElem?_eq_none (by simp; omega)]; rfl
theorem els_drp {g u : St} {k b : Int} (hb : 0 ≤ b ∧ b ≤ g 1 k 0 2) (h : drp g u k b) : els u k = (els g k).drop b.toNat := by
  obtain ⟨v, ⟨h1, h2, -, -, -⟩, rfl⟩ := h
  apply List.ext_getElem?
  intro i
  rw [List.getElem?_drop, els_get, els_get]
  have hn : (up v 1 k 0 2 (g 1 k 0 2 - b)) 1 k 0 2 = g 1 k 0 2 - b := up_s
  rw [hn]
  by_cases hi : i < (g 1 k 0 2 - b).toNat
  · rw [if_pos hi, if_pos (by omega)]
    have e7 : ∀ c q, (up v 1 k 0 2 (g 1 k 0 2 - b)) 7 k c q = g 7 k c q := fun c q => by rw [up_f (by decide)]; exact h1 7 k c q (by omega)
    have e5 : (up v 1 k 0 2 (g 1 k 0 2 - b)) 5 k 0 (i : Int) = g 5 k 0 (((b.toNat + i : Nat)) : Int) := by
      rw [up_f (by decide), h2 i (by omega) (by omega)]; congr 1; omega
    unfold ev eF
    rw [e5]; simp only [e7]
  · rw [if_neg hi, if_neg (by omega)]
def evn (g : St) (k p w y : Int) : Int × Int × Int × Int × Int := (p, g 6 k p 0, w, g 1 k 0 0 + eT g k (g 6 k p 0) y, y)
theorem els_ad {g : St} {k d p w y a : Int} (hw : wf g k d) (hn : g 1 k 0 2 < 24) (ha : 0 ≤ a ∧ a ≤ g 1 k 0 2) : els (adG g k p w y a) k = (els g k).take a.toNat ++ evn g k p w y :: (els g k).drop a.toNat := by
  obtain ⟨hS0, hS1, hS2, hB0, hB1, hB2, hCl, hN, hPl, hPm, hPj, hEc, hSo⟩ := hw
  have hne : ∀ r : Int, 0 ≤ r → r < g 1 k 0 2 → g 5 k 0 r ≠ g 5 k 0 (g 1 k 0 2) := fun r h0 h1 he => by
    have := hPj r (g 1 k 0 2) h0 (by omega) (by omega) (by omega) he; omega
  have old : ∀ r : Int, 0 ≤ r → r < g 1 k 0 2 → ∀ q, adG g k p w y a 7 k (g 5 k 0 r) q = g 7 k (g 5 k 0 r) q := fun r h0 h1 q => by rw [ad7, if_neg (hne r h0 h1)]
  apply List.ext_getElem?
  intro i
  rw [els_get, ad1, if_pos rfl]
  by_cases h1 : (i : Int) < a
  · rw [if_pos (by omega), List.getElem?_append_left (by rw [List.length_take, els_len]; omega), List.getElem?_take, if_pos (by omega), els_get, if_pos (by omega)]
    unfold ev eF
    rw [ad5, if_neg (by omega), if_neg (by omega)]
    simp only [old i (by omega) (by omega)]
  · rw [List.getElem?_append_right (by rw [List.length_take, els_len]; omega), List.length_take, els_len, show min a.toNat (g 1 k 0 2).toNat = a.toNat by omega]
    by_cases h2 : (i : Int) = a
    · rw [if_pos (by omega), show i - a.toNat = 0 by omega, List.getElem?_cons_zero]
      unfold ev eF evn
      rw [ad5, if_pos h2]
      simp [ad7]
    · rw [show i - a.toNat = (i - a.toNat - 1) + 1 by omega, List.getElem?_cons_succ, List.getElem?_drop, els_get]
      by_cases h3 : i < (g 1 k 0 2 + 1).toNat
      · rw [if_pos h3, if_pos (by omega)]
        unfold ev eF
        rw [ad5, if_neg h2, if_pos (by omega), show ((a.toNat + (i - a.toNat - 1) : Nat) : Int) = (i : Int) - 1 by omega]
        simp only [old ((i : Int) - 1) (by omega) (by omega)]
      · rw [if_neg h3, if_neg (by omega)]
