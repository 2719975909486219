/-! the start -/
def g0 : St := fun f _ j i => match f with
  | 2 => if i = 0 then 12 else if i = 1 then 3 else 2
  | 3 => if i = 0 then 0 else 1
  | 5 => i
  | 6 => if i = 0 then 2 * j + 2 else 0
  | 9 => 3 + i
  | _ => 0
theorem IC_g0 : IC g0 0 := by
  have e6 : ∀ (k j i : Int), g0 6 k j i = if i = 0 then 2 * j + 2 else 0 := fun _ _ _ => rfl
  refine ⟨⟨⟨by decide, by decide⟩, fun i h1 h2 => ?_, fun i j h1 h2 h3 h4 h5 => ?_⟩, fun k h1 h2 => ⟨⟨⟨(by decide : (8 : Int) ≤ 12), (by decide : (12 : Int) ≤ 40)⟩, ⟨(by decide : (1 : Int) ≤ 3), (by decide : (3 : Int) ≤ 9)⟩, ⟨(by decide : (0 : Int) ≤ 2), (by decide : (2 : Int) ≤ 5)⟩, ⟨(by decide : (0 : Int) ≤ 0), (by decide : (0 : Int) ≤ 12)⟩, ⟨(by decide : (1 : Int) ≤ 1), (by decide : (1 : Int) ≤ 9)⟩, Or.inr rfl, ⟨(by decide : (0 : Int) ≤ 0), (by decide : (0 : Int) ≤ 100000)⟩, ⟨(by decide : (0 : Int) ≤ 0), (by decide : (0 : Int) ≤ 24)⟩, fun j h3 h4 => ?_, fun i h3 h4 => ⟨h3, h4⟩, fun i j _ _ _ _ h => h, fun i h3 h4 => ?_, fun i j h3 h4 h5 => ?_⟩, fun p _ _ => (by decide : (0 : Int) ≤ 6), ⟨fun p q h3 h4 h5 h6 => ?_, (by decide : (0 : Int) ≤ 0), (by decide : (0 : Int) ≤ 0)⟩⟩⟩
  · show 3 ≤ 3 + i ∧ 3 + i ≤ 8; omega
  · have h6 : 3 + i = 3 + j := h5
    omega
  · rw [e6]; show _ ∧ _ ≤ (12 : Int); omega
  · have h5 : i < 0 := h4
    omega
  · have h6 : j < 0 := h5
    omega
  · rw [e6, if_neg (by omega)]
    show (0 : Int) ≤ 0 ∧ (0 : Int) ≤ 6 * 0 + 0
    decide
/-- the law's rows written -/
def g1 : St := up (up (up (up (up (up (up (up (up g0 14 0 0 0 12) 14 0 0 1 3) 14 0 0 2 2) 14 0 0 5 1) 14 0 0 6 1) 15 0 0 0 2) 15 0 0 6 4) 15 0 0 12 6) 15 0 0 18 8
theorem g1_14 (x : Int) : g1 14 0 0 x = if x = 6 then 1 else if x = 5 then 1 else if x = 2 then 2 else if x = 1 then 3 else if x = 0 then 12 else 0 := by
  unfold g1
  rw [up_f (by decide), up_f (by decide), up_f (by decide), up_f (by decide)]
  simp only [up, g0]
  grind
theorem g1_15 (x : Int) : g1 15 0 0 x = if x = 18 then 8 else if x = 12 then 6 else if x = 6 then 4 else if x = 0 then 2 else 0 := by
  unfold g1
  simp only [up, g0]
  grind
theorem g1_f {f : Nat} (h14 : f ≠ 14) (h15 : f ≠ 15) : g1 f = g0 f := by
  unfold g1
  rw [up_ff h15, up_ff h15, up_ff h15, up_ff h15, up_ff h14, up_ff h14, up_ff h14, up_ff h14, up_ff h14]
theorem J_g1 : J g1 (200 * ((0 : Nat) : Int)) ((0 : Nat) : Int) := by
  have e9 : g1 14 0 0 9 = 0 := by rw [g1_14]; decide
  have el : lls g1 = [] := by unfold lls; rw [e9]; rfl
  refine ⟨IC_cg (fun f hf => g1_f (by omega) (by omega)) IC_g0, tieL_mk ⟨?_, ?_, ?_⟩ ⟨?_, ?_, ?_, ?_⟩ ?_ (fun p x p0 p4 x0 x6 => ?_) ?_ ?_ ?_, ?_, fun i a b => ?_, ?_, ?_, ?_, ?_⟩
  · rw [g1_f (by decide) (by decide), g1_14]; rfl
  · rw [g1_f (by decide) (by decide), g1_14]; rfl
  · rw [g1_f (by decide) (by decide), g1_14]; rfl
  · rw [g1_f (by decide) (by decide), g1_14]; rfl
  · rw [g1_f (by decide) (by decide), g1_14]; rfl
  · rw [g1_f (by decide) (by decide), g1_14]; rfl
  · rw [g1_f (by decide) (by decide), g1_14]; rfl
  · rw [g1_f (by decide) (by decide), g1_14]; rfl
  · rw [g1_f (by decide) (by decide), g1_15]
    rcases (by omega : p = 0 ∨ p = 1 ∨ p = 2 ∨ p = 3) with rfl | rfl | rfl | rfl <;> rcases (by omega : x = 0 ∨ x = 1 ∨ x = 2 ∨ x = 3 ∨ x = 4 ∨ x = 5) with rfl | rfl | rfl | rfl | rfl | rfl <;> rfl
  · rw [el]
    show els g1 0 = []
    unfold els
    rw [g1_f (by decide) (by decide)]; rfl
  · rw [e9]; decide
  · rw [g1_14, g1_15, g1_15, g1_15, g1_15]; decide
  · rw [g1_14]; decide
  · rw [g1_15]; (repeat' split) <;> omega
  · rw [g1_14]; decide
  · rw [g1_14]; decide
  · unfold cons
    rw [g1_14, e9]
    unfold s345 plF
    simp only [g1_15]
    decide
  · rw [g1_14]; decide
theorem arrV_eq {cA : ClassId} {N : Nat} {f f' : Nat → Value} (h : ∀ q, q < N → f q = f' q) : arrV cA N f = arrV cA N f' := by
  unfold arrV
  congr 2
  funext j
  exact h j.val j.isLt
section ST
variable {L : Lay} {w : Nat → va_E} {n : Nat} {H : Heap}
theorem hn_e (h : HN L w n H) {i : Nat} (hi : i < n) {e : va_E} (he : w i = e) : va_at L.1 vwCl (L.2.2 + i, e) H := by
  subst he; exact h.2 i _ (wsN_at hi)
theorem hn_i (h : HN L w n H) {i t N : Nat} {f : Nat → Int} (hi : i < n) (ha : arI L w i t N f N) {fn : Nat → Int32} (hf : ∀ q, q < N → fn q = iI (f q)) : va_at L.1 vwCl (L.2.2 + i, .inl (L.2.1 t, N, .inl fn)) H := by
  obtain ⟨fn2, e1, e2⟩ := ha
  have h1 := hn_e h hi e1
  show H[_]? = some (vp_cell _ _)
  have h2 : H[L.2.2 + i]? = some (vp_cell (L.2.1 t) (N, .inl fn2)) := h1
  rw [h2, vp_cell_i, vp_cell_i]
  exact congrArg some (arrV_eq (fun q hq => by rw [e2 q hq, hf q hq]))
theorem hn_p (h : HN L w n H) {i t N : Nat} {R : Nat → Nat} (hi : i < n) (ha : arP L w i t N R N) {fn : Nat → Option Nat} (hf : ∀ q, q < N → fn q = some (L.2.2 + R q)) : va_at L.1 vwCl (L.2.2 + i, .inl (L.2.1 t, N, .inr (.inr (.inr (.inr fn))))) H := by
  obtain ⟨fn2, e1, e2⟩ := ha
  have h1 := hn_e h hi e1
  show H[_]? = some (vp_cell _ _)
  have h2 : H[L.2.2 + i]? = some (vp_cell (L.2.1 t) (N, .inr (.inr (.inr (.inr fn2))))) := h1
  rw [h2, vp_cell_q, vp_cell_q]
  exact congrArg some (arrV_eq (fun q hq => by rw [e2 q hq, hf q hq]))
theorem CF_at (h : HN L w 309 H) {k : Int} {b : Nat} (hc : CF L w b) (hb : (b : Int) = cb k) (h3 : b + 33 ≤ 309) : ∀ q ∈ klC k, va_at L.1 vwCl (adr L q.1 q.2.1 q.2.2, cellT L q.1 q.2.1 q.2.2 (g0 q.1 q.2.1 q.2.2)) H := by
  obtain ⟨c1, c2, c3, c4, c5, c6, c7⟩ := hc
  have a1 : adr L 1 k 0 = L.2.2 + b := by show L.2.2 + (cb k).toNat = _; omega
  have a2 : adr L 2 k 0 = L.2.2 + (b + 1) := by show L.2.2 + (cb k + 1).toNat = _; omega
  have a3 : adr L 3 k 0 = L.2.2 + (b + 2) := by show L.2.2 + (cb k + 2).toNat = _; omega
  have a4 : adr L 4 k 0 = L.2.2 + (b + 3) := by show L.2.2 + (cb k + 3).toNat = _; omega
  have a5 : adr L 5 k 0 = L.2.2 + (b + 4) := by show L.2.2 + (cb k + 4).toNat = _; omega
  have a6 : ∀ j : Nat, adr L 6 k j = L.2.2 + (b + 5 + j) := fun j => by show L.2.2 + (cb k + 5 + j).toNat = _; omega
  have a7 : ∀ j : Nat, adr L 7 k j = L.2.2 + (b + 9 + j) := fun j => by show L.2.2 + (cb k + 9 + j).toNat = _; omega
  intro q hq
  rcases List.mem_append.mp hq with hq | hq
  · simp only [List.mem_cons, List.not_mem_nil, or_false] at hq
    rcases hq with rfl | rfl | rfl | rfl | rfl
    · show va_at L.1 vwCl (adr L 1 k 0, .inr (1, [.int (iI 0), .int (iI 0), .int (iI 0), .ref (adr L 2 k 0), .ref (adr L 3 k 0), .ref (adr L 4 k 0), .ref (adr L 5 k 0)])) H
      rw [a1, a2, a3, a4, a5]
      exact hn_e h (by omega) c1
    · show va_at L.1 vwCl (adr L 2 k 0, .inl (L.2.1 0, 3, .inl (fun i : Nat => iI (g0 2 k 0 i)))) H
      rw [a2]
      refine hn_i h (by omega) c2 (fun q hq => congrArg iI ?_)
      rcases (by omega : q = 0 ∨ q = 1 ∨ q = 2) with rfl | rfl | rfl <;> rfl
    · show va_at L.1 vwCl (adr L 3 k 0, eB 0 1 1) H
      rw [a3]
      exact hn_e h (by omega) c3
    · show va_at L.1 vwCl (adr L 4 k 0, .inl (L.2.1 3, 4, .inr (.inr (.inr (.inr (fun i : Nat => some (adr L 6 k i))))))) H
      rw [a4]
      exact hn_p h (by omega) c4 (fun q hq => congrArg some (a6 q))
    · show va_at L.1 vwCl (adr L 5 k 0, .inl (L.2.1 4, 24, .inr (.inr (.inr (.inr (fun i : Nat => some (adr L 7 k i))))))) H
      rw [a5]
      exact hn_p h (by omega) c5 (fun q hq => congrArg some (a7 q))
  · rcases List.mem_append.mp hq with hq | hq
    · obtain ⟨j, hj, rfl⟩ := List.mem_map.mp hq
      have hj2 := List.mem_range.mp hj
      show va_at L.1 vwCl (adr L 6 k j, eP (2 * (j : Int) + 2)) H
      rw [a6]
      exact hn_e h (by omega) (c6 j hj2)
    · obtain ⟨j, hj, rfl⟩ := List.mem_map.mp hq
      have hj2 := List.mem_range.mp hj
      show va_at L.1 vwCl (adr L 7 k j, eE) H
      rw [a7]
      exact hn_e h (by omega) (c7 j hj2)
def W0 (L : Lay) (w : Nat → va_E) : Prop := GB L w ∧ arP L w 234 5 2 (fun q => 239 + 33 * q) 2 ∧ (∀ q, q < 2 → CF L w (239 + 33 * q)) ∧ w 305 = .inl (L.2.1 0, 10, .inl (fun _ => iI 0)) ∧ w 306 = .inl (L.2.1 0, 24, .inl (fun _ => iI 0)) ∧ w 307 = .inl (L.2.1 0, 24, .inl (fun _ => iI 0)) ∧ w 308 = .inl (L.2.1 0, 24, .inl (fun _ => iI 0))
theorem HH_g0 (h : HN L w 309 H) (hw : W0 L w) (h0 : su L = 0) : HH L g0 H := by
  obtain ⟨⟨b1, b2, b3, b4, b5, b6, b7, b8, b9⟩, s1, s2, m1, m2, m3, m4⟩ := hw
  have hk : ∀ q ∈ kl1, va_at L.1 vwCl (adr L q.1 q.2.1 q.2.2, cellT L q.1 q.2.1 q.2.2 (g0 q.1 q.2.1 q.2.2)) H := by
    intro q hq
    rcases List.mem_append.mp hq with hq | hq
    · simp only [kl0, List.mem_cons, List.not_mem_nil, or_false] at hq
      rcases hq with rfl | rfl | rfl | rfl | rfl | rfl | rfl | rfl | rfl | rfl | rfl | rfl
      · exact hn_e h (Nat.le_of_ble_eq_true rfl) b1
      · exact hn_e h (Nat.le_of_ble_eq_true rfl) b3
      · refine hn_p h (by decide) b4 (fun q hq => congrArg some ?_)
        show L.2.2 + (cb (3 + (q : Int))).toNat = _
        unfold cb
        rw [if_neg (by omega), if_neg (by omega), if_pos (by omega)]
        omega
      · refine hn_p h (by decide) s1 (fun q hq => congrArg some ?_)
        show L.2.2 + (cb (1 + (q : Int))).toNat = _
        unfold cb
        rw [if_neg (by omega), if_pos (by omega)]
        omega
      · exact hn_e h (Nat.le_of_ble_eq_true rfl) b6
      · exact hn_e h (Nat.le_of_ble_eq_true rfl) b7
      · exact hn_e h (Nat.le_of_ble_eq_true rfl) b8
      · exact hn_e h (Nat.le_of_ble_eq_true rfl) b9
      · exact hn_e h (Nat.le_of_ble_eq_true rfl) m1
      · exact hn_e h (Nat.le_of_ble_eq_true rfl) m2
      · exact hn_e h (Nat.le_of_ble_eq_true rfl) m3
      · exact hn_e h (Nat.le_of_ble_eq_true rfl) m4
    · obtain ⟨k, hk, hq⟩ := List.mem_flatMap.mp hq
      have hk2 := List.mem_range.mp hk
      rcases (by omega : k = 0 ∨ k = 1 ∨ k = 2 ∨ (3 ≤ k ∧ k < 9)) with rfl | rfl | rfl | hk3
      · exact CF_at h b2 (by decide) (by decide) q hq
      · exact CF_at h (s2 0 (by decide)) (by decide) (by decide) q hq
      · exact CF_at h (s2 1 (by decide)) (by decide) (by decide) q hq
      · refine CF_at h (b5 (k - 3) (by omega)) ?_ (by omega) q hq
        unfold cb
        rw [if_neg (by omega), if_neg (by omega), if_pos (by omega)]
        omega
  intro n q hq
  simp only [wl, List.getElem?_map, Option.map_eq_some_iff] at hq
  obtain ⟨x, hx, rfl⟩ := hq
  rcases kl_cs hx with ⟨h1, h2, -⟩ | ⟨-, -, h3⟩
  · exact hk x (List.mem_of_getElem? h1)
  · omega
end ST
