/-! the order in which echoes are told: by when they are due, at once by the order of calls -/
abbrev dueE (x : E5) : Int := x.2.2.2.1
def ins (x : E5) : List E5 → List E5
  | [] => [x]
  | y :: l => if dueE y ≤ dueE x then y :: ins x l else x :: y :: l
def srt (l : List E5) : List E5 := l.foldl (fun a x => ins x a) []
theorem srt_add (l : List E5) (x : E5) : srt (l ++ [x]) = ins x (srt l) := by
  unfold srt; rw [List.foldl_append]; rfl
theorem ins_filter {P : E5 → Bool} {x : E5} (hP : ∀ a b : E5, dueE a ≤ dueE b → P a = true → P b = true) : ∀ l : List E5, (ins x l).filter P = if P x = true then ins x (l.filter P) else l.filter P
  | [] => by
    by_cases hx : P x = true
    · rw [if_pos hx]; unfold ins; rw [List.filter_cons_of_pos hx]; rfl
    · rw [if_neg hx]; unfold ins; rw [List.filter_cons_of_neg hx]
  | y :: l => by
    have ih := ins_filter hP (x := x) l
    rw [ins]
    by_cases h : dueE y ≤ dueE x
    · rw [if_pos h]
      by_cases hy : P y = true
      · have hx := hP y x h hy
        rw [List.filter_cons_of_pos hy, ih, if_pos hx, if_pos hx, List.filter_cons_of_pos hy, ins, if_pos h]
      · rw [List.filter_cons_of_neg hy, ih, List.filter_cons_of_neg hy]
    · rw [if_neg h]
      by_cases hx : P x = true
      · have hy := hP x y (by omega) hx
        rw [if_pos hx, List.filter_cons_of_pos hx, List.filter_cons_of_pos hy, ins, if_neg h]
      · rw [if_neg hx, List.filter_cons_of_neg hx]
theorem foldl_ins_filter {P : E5 → Bool} (hP : ∀ a b : E5, dueE a ≤ dueE b → P a = true → P b = true) : ∀ (l a : List E5), (l.foldl (fun a x => ins x a) a).filter P = (l.filter P).foldl (fun a x => ins x a) (a.filter P)
  | [], _ => rfl
  | x :: l, a => by
    rw [List.foldl_cons, foldl_ins_filter hP l, ins_filter hP]
    by_cases hx : P x = true
    · rw [if_pos hx, List.filter_cons_of_pos hx, List.foldl_cons]
    · rw [if_neg hx, List.filter_cons_of_neg hx]
theorem srt_filter {P : E5 → Bool} (hP : ∀ a b : E5, dueE a ≤ dueE b → P a = true → P b = true) (l : List E5) : (srt l).filter P = srt (l.filter P) := foldl_ins_filter hP l []
theorem ins_at {x : E5} : ∀ (l : List E5) (a : Nat), a ≤ l.length → (∀ (i : Nat) (y : E5), i < a → l[i]? = some y → dueE y ≤ dueE x) → (∀ (i : Nat) (y : E5), a ≤ i → l[i]? = some y → dueE x < dueE y) → l.take a ++ x :: l.drop a = ins x l
  | [], a, h, _, _ => by
    have : a = 0 := by simpa using h
    subst this; rfl
  | y :: l, 0, _, _, h2 => by
    have := h2 0 y (Nat.le_refl 0) rfl
    rw [ins, if_neg (by omega)]; rfl
  | y :: l, a + 1, h, h1, h2 => by
    have := h1 0 y (by omega) rfl
    have ih := ins_at l a (by simpa using h) (fun i z hi hz => h1 (i + 1) z (by omega) (by rw [List.getElem?_cons_succ]; exact hz)) (fun i z hi hz => h2 (i + 1) z (by omega) (by rw [List.getElem?_cons_succ]; exact hz))
    rw [ins, if_pos this, List.take_succ_cons, List.drop_succ_cons, List.cons_append, ih]
theorem ins_perm (x : E5) : ∀ l : List E5, (ins x l).Perm (x :: l)
  | [] => List.Perm.refl _
  | y :: l => by
    rw [ins]; split
    · exact ((ins_perm x l).cons y).trans (List.Perm.swap x y l)
    · exact List.Perm.refl _
theorem foldl_ins_perm : ∀ (l a : List E5), (l.foldl (fun a x => ins x a) a).Perm (l ++ a)
  | [], _ => List.Perm.refl _
  | x :: l, a => by
    rw [List.foldl_cons]
    refine (foldl_ins_perm l (ins x a)).trans ?_
    refine ((ins_perm x a).append_left l).trans ?_
    exact List.perm_middle
theorem srt_perm (l : List E5) : (srt l).Perm l := by
  have := foldl_ins_perm l []
  rw [List.append_nil] at this; exact this
def sdL : List E5 → Prop
  | [] => True
  | x :: l => (∀ y ∈ l, dueE x ≤ dueE y) ∧ sdL l
theorem ins_sd {x : E5} : ∀ {l : List E5}, sdL l → sdL (ins x l)
  | [], _ => ⟨fun _ h => absurd h List.not_mem_nil, trivial⟩
  | y :: l, h => by
    rw [ins]; split
    · rename_i hy
      refine ⟨fun z hz => ?_, ins_sd h.2⟩
      rcases List.mem_cons.mp ((ins_perm x l).mem_iff.mp hz) with rfl | hz
      · exact hy
      · exact h.1 z hz
    · rename_i hy
      refine ⟨fun z hz => ?_, h⟩
      rcases List.mem_cons.mp hz with rfl | hz
      · omega
      · have := h.1 z hz; omega
theorem foldl_sd : ∀ (l : List E5) {a : List E5}, sdL a → sdL (l.foldl (fun a x => ins x a) a)
  | [], _, h => h
  | x :: l, _, h => by rw [List.foldl_cons]; exact foldl_sd l (ins_sd h)
theorem srt_sd (l : List E5) : sdL (srt l) := foldl_sd l trivial
abbrev leE (d : Int) : E5 → Bool := fun y => decide (dueE y ≤ d)
theorem sd_count {d : Int} : ∀ {l : List E5}, sdL l → ∀ (i : Nat) (y : E5), l[i]? = some y → (i < l.countP (leE d) ↔ dueE y ≤ d)
  | [], _, i, y, hy => by simp at hy
  | z :: l, h, i, y, hy => by
    have ih := sd_count (d := d) h.2
    by_cases hz : dueE z ≤ d
    · rw [List.countP_cons_of_pos (show leE d z = true from decide_eq_true hz)]
      cases i with
      | zero =>
        rw [List.getElem?_cons_zero] at hy
        cases hy
        exact ⟨fun _ => hz, fun _ => by omega⟩
      | succ i =>
        rw [List.getElem?_cons_succ] at hy
        have := ih i y hy
        omega
    · have h0 : (z :: l).countP (leE d) = 0 := by
        rw [List.countP_eq_zero]
        intro w hw hx
        have hx := of_decide_eq_true hx
        rcases List.mem_cons.mp hw with rfl | hw
        · exact hz hx
        · have := h.1 w hw; omega
      rw [h0]
      have hy2 : dueE z ≤ dueE y := by
        cases i with
        | zero => rw [List.getElem?_cons_zero] at hy; cases hy; omega
        | succ i => rw [List.getElem?_cons_succ] at hy; exact h.1 y (List.mem_of_getElem? hy)
      omega
theorem ins_pos {l : List E5} (h : sdL l) (x : E5) : ins x l = l.take (l.countP (leE (dueE x))) ++ x :: l.drop (l.countP (leE (dueE x))) :=
  (ins_at l _ List.countP_le_length (fun i y hi hy => (sd_count h i y hy).mp hi) (fun i y hi hy => by have := (sd_count (d := dueE x) h i y hy); omega)).symm
theorem ins_get {l : List E5} (h : sdL l) (x : E5) (j : Nat) : (ins x l)[j]? = if j < l.countP (leE (dueE x)) then l[j]? else if j = l.countP (leE (dueE x)) then some x else l[j - 1]? := by
  have hc : l.countP (leE (dueE x)) ≤ l.length := List.countP_le_length
  rw [ins_pos h x]
  by_cases h1 : j < l.countP (leE (dueE x))
  · rw [if_pos h1, List.getElem?_append_left (by rw [List.length_take]; omega), List.getElem?_take, if_pos h1]
  · rw [if_neg h1, List.getElem?_append_right (by rw [List.length_take]; omega), List.length_take, Nat.min_eq_left hc]
    by_cases h2 : j = l.countP (leE (dueE x))
    · rw [if_pos h2, h2, Nat.sub_self, List.getElem?_cons_zero]
    · rw [if_neg h2, show j - l.countP (leE (dueE x)) = (j - l.countP (leE (dueE x)) - 1) + 1 by omega, List.getElem?_cons_succ, List.getElem?_drop]
      congr 1; omega
/-- the rank of the reference is the place in this order -/
theorem rank_ok (m : St) : ∀ n : Nat, n ≤ (m 15 0 0 9).toNat → (∀ i : Nat, i < n → ∃ r : Nat, r < n ∧ cn (fun e => decide (bef m i e)) n = r ∧ (srt ((mls m).take n))[r]? = some (mev m i)) ∧ (∀ r : Nat, r < n → ∃ i : Nat, i < n ∧ cn (fun e => decide (bef m i e)) n = r)
  | 0, _ => ⟨fun i hi => absurd hi (Nat.not_lt_zero i), fun i hi => absurd hi (Nat.not_lt_zero i)⟩
  | n + 1, hn => by
    obtain ⟨hA, hB⟩ := rank_ok m n (by omega)
    have hs := srt_sd ((mls m).take n)
    have ht : (mls m).take (n + 1) = (mls m).take n ++ [mev m n] := by
      rw [List.take_succ, mls_get, if_pos (by omega)]; rfl
    have hc : cn (fun e => decide (bef m n e)) n = (((srt ((mls m).take n)).countP (leE (dueE (mev m n))) : Nat) : Int) := by
      rw [(srt_perm _).countP_eq]
      have e1 : (mls m).take n = (List.range n).map (fun i : Nat => mev m i) := by
        unfold mls
        rw [← List.map_take, List.take_range, Nat.min_eq_left (by omega)]
      rw [e1, ← cn_count (fun e => leE (dueE (mev m n)) (mev m e)) (fun i : Nat => mev m i) (leE (dueE (mev m n))) (fun i => rfl)]
      refine cn_congr (fun e h0 h1 => decide_eq_decide.mpr ?_)
      show bef m n e ↔ m 15 0 0 (34 + 5 * e + 3) ≤ m 15 0 0 (34 + 5 * (n : Int) + 3)
      unfold bef; omega
    have hst : ∀ i : Nat, i < n → cn (fun e => decide (bef m i e)) (n + 1) = cn (fun e => decide (bef m i e)) n + (if dueE (mev m n) < dueE (mev m i) then 1 else 0) := fun i hi => by
      rw [cn]
      have : (decide (bef m i n) = true) ↔ dueE (mev m n) < dueE (mev m i) := by
        rw [decide_eq_true_eq]
        show bef m i n ↔ m 15 0 0 (34 + 5 * (n : Int) + 3) < m 15 0 0 (34 + 5 * (i : Int) + 3)
        unfold bef; omega
      by_cases hd : dueE (mev m n) < dueE (mev m i)
      · rw [if_pos hd, if_pos (this.mpr hd)]
      · rw [if_neg hd, if_neg (fun hx => hd (this.mp hx)), Int.add_zero]
    have hsn : cn (fun e => decide (bef m n e)) (n + 1) = cn (fun e => decide (bef m n e)) n := by
      rw [cn, if_neg (fun hx => by have := of_decide_eq_true hx; unfold bef at this; omega), Int.add_zero]
    have hcl : (srt ((mls m).take n)).countP (leE (dueE (mev m n))) ≤ n := by
      have a : (srt ((mls m).take n)).countP (leE (dueE (mev m n))) ≤ (srt ((mls m).take n)).length := List.countP_le_length
      rw [(srt_perm _).length_eq, List.length_take] at a; omega
    refine ⟨fun i hi => ?_, fun r hr => ?_⟩
    · rw [ht, srt_add]
      by_cases hin : i = n
      · subst hin
        refine ⟨(srt ((mls m).take i)).countP (leE (dueE (mev m i))), by omega, by rw [hsn, hc], ?_⟩
        rw [ins_get hs, if_neg (by omega), if_pos rfl]
      · obtain ⟨r, hr, h1, h2⟩ := hA i (by omega)
        have hq := sd_count (d := dueE (mev m n)) hs r _ h2
        by_cases hd : dueE (mev m n) < dueE (mev m i)
        · refine ⟨r + 1, by omega, by rw [hst i (by omega), h1, if_pos hd]; omega, ?_⟩
          rw [ins_get hs, if_neg (by omega), if_neg (by omega), Nat.add_sub_cancel]; exact h2
        · refine ⟨r, by omega, by rw [hst i (by omega), h1, if_neg hd]; omega, ?_⟩
          rw [ins_get hs, if_pos (by omega)]; exact h2
    · by_cases h1 : r = (srt ((mls m).take n)).countP (leE (dueE (mev m n)))
      · exact ⟨n, by omega, by rw [hsn, hc, h1]⟩
      · by_cases h2 : r < (srt ((mls m).take n)).countP (leE (dueE (mev m n)))
        · obtain ⟨i, hi, hr2⟩ := hB r (by omega)
          obtain ⟨r2, hr3, h3, h4⟩ := hA i hi
          have : r2 = r := by omega
          subst this
          have hq := sd_count (d := dueE (mev m n)) hs r2 _ h4
          exact ⟨i, by omega, by rw [hst i hi, hr2, if_neg (by omega)]; omega⟩
        · obtain ⟨i, hi, hr2⟩ := hB (r - 1) (by omega)
          obtain ⟨r2, hr3, h3, h4⟩ := hA i hi
          have : r2 = r - 1 := by omega
          subst this
          have hq := sd_count (d := dueE (mev m n)) hs (r - 1) _ h4
          exact ⟨i, by omega, by rw [hst i hi, hr2, if_pos (by omega)]; omega⟩
theorem eaM_ex (m : St) (r : Int) : ∀ n : Nat, (∀ i : Nat, i < n → rk m i ≠ r) → eaM m r n = -1
  | 0, _ => rfl
  | n + 1, h => by rw [eaM, if_neg (h n (by omega))]; exact eaM_ex m r n (fun i hi => h i (by omega))
theorem eaM_at (m : St) (r : Int) : ∀ n : Nat, (∃ i : Nat, i < n ∧ rk m i = r) → ∃ i : Nat, i < n ∧ rk m i = r ∧ eaM m r n = i
  | 0, h => by obtain ⟨i, hi, _⟩ := h; exact absurd hi (Nat.not_lt_zero i)
  | n + 1, h => by
    rw [eaM]
    by_cases hn : rk m n = r
    · exact ⟨n, by omega, hn, by rw [if_pos hn]⟩
    · rw [if_neg hn]
      obtain ⟨i, hi, h1⟩ := h
      obtain ⟨j, hj, h2, h3⟩ := eaM_at m r n ⟨i, by
        have : i ≠ n := fun hx => hn (by rw [← hx]; exact h1)
        omega, h1⟩
      exact ⟨j, by omega, h2, h3⟩
/-- the echo of a rank -/
theorem eaM_srt (m : St) (h9 : 0 ≤ m 15 0 0 9) (r : Int) (h0 : 0 ≤ r) : (m 15 0 0 9 ≤ r ∧ eaM m r (m 15 0 0 9).toNat = -1) ∨ (r < m 15 0 0 9 ∧ ∃ i : Nat, i < (m 15 0 0 9).toNat ∧ eaM m r (m 15 0 0 9).toNat = i ∧ (srt (mls m))[r.toNat]? = some (mev m i)) := by
  obtain ⟨hA, hB⟩ := rank_ok m (m 15 0 0 9).toNat (Nat.le_refl _)
  have ht : (mls m).take (m 15 0 0 9).toNat = mls m := List.take_of_length_le (by rw [mls_len]; exact Nat.le_refl _)
  rw [ht] at hA
  by_cases h : r < m 15 0 0 9
  · right
    obtain ⟨i, hi, h1⟩ := hB r.toNat (by omega)
    obtain ⟨j, hj, h2, h3⟩ := eaM_at m r _ ⟨i, hi, by unfold rk; omega⟩
    obtain ⟨q, hq, h4, h5⟩ := hA j hj
    refine ⟨h, j, hj, h3, ?_⟩
    have : r.toNat = q := by unfold rk at h2; omega
    rw [this]; exact h5
  · left
    refine ⟨by omega, eaM_ex m r _ (fun i hi => ?_)⟩
    obtain ⟨q, hq, h4, -⟩ := hA i hi
    unfold rk; omega
