/-! a turn's echoes, whatever their order -/
abbrev E5 : Type := Int × Int × Int × Int × Int
abbrev AS : Type := (Int → Int → Int) × Int × Int × Int
def bm (F : Int → Int → Int) (p q : Int) : Int → Int → Int := fun p' q' => if p' = p ∧ q' = q then F p' q' + 1 else F p' q'
theorem bm_comm (F : Int → Int → Int) (p q a b : Int) : bm (bm F p q) a b = bm (bm F a b) p q := by
  funext x y; simp only [bm]; (repeat' split) <;> omega
def fx (cl : E5 → Bool) (pp : Int → Int) (ball : Int) (S : AS) (x : E5) : AS :=
  if cl x = true then (bm S.1 x.1 4, S.2) else if pp x.1 ≠ x.2.1 then (bm S.1 x.1 5, S.2) else if ball ≠ x.2.1 then (bm S.1 x.1 3, S.2) else (bm (bm S.1 x.1 3) x.1 1, fwS S.2.1 x.2.2.1, fwR S.2.2.1 x.2.2.1, S.2.2.2 + 1)
def ctc (cl : E5 → Bool) (pp : Int → Int) (ball : Int) (x : E5) : Prop := ¬ cl x = true ∧ pp x.1 = x.2.1 ∧ ball = x.2.1
theorem fx_n {cl : E5 → Bool} {pp : Int → Int} {ball : Int} {x : E5} (h : ¬ ctc cl pp ball x) : ∃ q, ∀ S, fx cl pp ball S x = (bm S.1 x.1 q, S.2) := by
  unfold ctc at h
  by_cases h1 : cl x = true
  · exact ⟨4, fun S => by unfold fx; rw [if_pos h1]⟩
  · by_cases h2 : pp x.1 ≠ x.2.1
    · exact ⟨5, fun S => by unfold fx; rw [if_neg h1, if_pos h2]⟩
    · by_cases h3 : ball ≠ x.2.1
      · exact ⟨3, fun S => by unfold fx; rw [if_neg h1, if_neg h2, if_pos h3]⟩
      · exact absurd ⟨h1, Decidable.byContradiction h2, Decidable.byContradiction h3⟩ h
theorem fx_c {cl : E5 → Bool} {pp : Int → Int} {ball : Int} {x : E5} (h : ctc cl pp ball x) (S : AS) : fx cl pp ball S x = (bm (bm S.1 x.1 3) x.1 1, fwS S.2.1 x.2.2.1, fwR S.2.2.1 x.2.2.1, S.2.2.2 + 1) := by
  unfold fx; rw [if_neg h.1, if_neg (fun hn => hn h.2.1), if_neg (fun hn => hn h.2.2)]
theorem fx_comm {cl : E5 → Bool} {pp : Int → Int} {ball : Int} {x y : E5} (h : ¬ (ctc cl pp ball x ∧ ctc cl pp ball y)) (S : AS) : fx cl pp ball (fx cl pp ball S x) y = fx cl pp ball (fx cl pp ball S y) x := by
  rcases Classical.em (ctc cl pp ball x) with hx | hx
  · rcases Classical.em (ctc cl pp ball y) with hy | hy
    · exact absurd ⟨hx, hy⟩ h
    · obtain ⟨q, hq⟩ := fx_n hy
      rw [fx_c hx, hq, hq, fx_c hx]
      simp only []
      rw [bm_comm _ x.1 1, bm_comm _ x.1 3]
  · obtain ⟨q, hq⟩ := fx_n hx
    rcases Classical.em (ctc cl pp ball y) with hy | hy
    · rw [hq, fx_c hy, fx_c hy, hq]
      simp only []
      rw [bm_comm S.1 x.1 q y.1 3, bm_comm _ x.1 q]
    · obtain ⟨r, hr⟩ := fx_n hy
      rw [hq, hr, hr, hq]
      simp only []
      rw [bm_comm]
theorem fx_perm {cl : E5 → Bool} {pp : Int → Int} {ball : Int} {l l2 : List E5} (h : l.Perm l2) (hu : ∀ x ∈ l, ∀ y ∈ l, ctc cl pp ball x → ctc cl pp ball y → x = y) (S : AS) : l.foldl (fx cl pp ball) S = l2.foldl (fx cl pp ball) S := by
  refine h.foldl_eq' (fun x hx y hy z => ?_) S
  rcases Classical.em (ctc cl pp ball x ∧ ctc cl pp ball y) with hc | hc
  · rw [hu x hx y hy hc.1 hc.2]
  · exact fx_comm hc z
/-- an echo clashes when another one comes to its place with it -/
abbrev smE (x : E5) : E5 → Bool := fun y => decide (y.2.1 = x.2.1 ∧ y.2.2.2.1 = x.2.2.2.1)
def clL (L : List E5) (x : E5) : Bool := decide (1 < L.countP (smE x))
theorem two_le {α : Type} {P : α → Bool} {L : List α} {x y : α} (hx : x ∈ L) (hy : y ∈ L) (px : P x = true) (py : P y = true) (hn : x ≠ y) : 1 < L.countP P := by
  rw [List.countP_eq_length_filter]
  have fx : x ∈ L.filter P := List.mem_filter.mpr ⟨hx, px⟩
  have fy : y ∈ L.filter P := List.mem_filter.mpr ⟨hy, py⟩
  generalize L.filter P = M at *
  match M, fx, fy with
  | [a], h1, h2 => exact absurd ((List.mem_singleton.mp h1).trans (List.mem_singleton.mp h2).symm) hn
  | a :: b :: t, _, _ => simp
theorem ct_one {L : List E5} {pp : Int → Int} {ball c : Int} {l : List E5} (hs : ∀ x ∈ l, x ∈ L ∧ x.2.2.2.1 = c) : ∀ x ∈ l, ∀ y ∈ l, ctc (clL L) pp ball x → ctc (clL L) pp ball y → x = y := by
  intro x hx y hy cx cy
  apply Classical.byContradiction
  intro hn
  refine cx.1 (decide_eq_true (two_le (hs x hx).1 (hs y hy).1 (P := smE x) (by simp) ?_ hn))
  have e1 := (hs x hx).2
  have e2 := (hs y hy).2
  have e3 := cx.2.2
  have e4 := cy.2.2
  exact decide_eq_true ⟨by omega, by omega⟩
theorem clL_perm {L M : List E5} (h : L.Perm M) : clL L = clL M := by
  funext x; unfold clL; rw [h.countP_eq]
