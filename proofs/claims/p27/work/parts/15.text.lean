/-! pure words of the text -/
def cdA (g : St) (i : Int) : Int := if 0 ≤ i ∧ i < g 12 0 0 1 then g 13 0 0 i else -1
def wt (g : St) : Prop := (0 ≤ g 12 0 0 1 ∧ g 12 0 0 1 ≤ 60) ∧ ∀ i : Int, 0 ≤ i → i < 60 → 0 ≤ g 13 0 0 i ∧ g 13 0 0 i ≤ 126
theorem cdA_in {g : St} (h : wt g) (i : Int) : -1 ≤ cdA g i ∧ cdA g i ≤ 126 := by
  unfold cdA
  split
  · have := h.2 i (by omega) (by have := h.1; omega); omega
  · omega
def saS (c : Int) : Int := if c = 99 then 1 else if c = 109 then 4 else if c = 116 then 7 else -1
def saO (c : Int) : Int := if c = 59 then 0 else -1
abbrev isPl (c : Int) : Prop := 48 ≤ c ∧ c < 52
abbrev isDg (c : Int) : Prop := 48 ≤ c ∧ c ≤ 57
/-- the next state of the reading -/
def stA (s c : Int) : Int := if s = 0 then saS c else if s = 1 then (if isPl c then 2 else -1) else if s = 2 then (if c = 61 then 3 else -1) else if s = 3 then (if isDg c then 9 else -1) else if s = 4 then (if isPl c then 5 else -1) else if s = 5 then (if c = 43 ∨ c = 45 then 6 else -1) else if s = 6 then (if isDg c ∧ c ≠ 48 then 9 else -1) else if s = 7 then (if isDg c ∧ c ≠ 48 then 8 else -1) else if s = 8 then (if isDg c then 9 else saO c) else if s = 9 then saO c else -1
theorem stA_in (s c : Int) : -1 ≤ stA s c ∧ stA s c ≤ 9 := by
  unfold stA saS saO
  (repeat' split) <;> omega
def stN (c : Int → Int) : Nat → Int
  | 0 => 0
  | n + 1 => stA (stN c n) (c n)
theorem stN_in (c : Int → Int) : ∀ n, -1 ≤ stN c n ∧ stN c n ≤ 9
  | 0 => ⟨by simp [stN], by simp [stN]⟩
  | _ + 1 => stA_in _ _
theorem stN_s {c : Int → Int} {i : Int} (h : 0 ≤ i) : stN c (i + 1).toNat = stA (stN c i.toNat) (c i) := by
  rw [show (i + 1).toNat = i.toNat + 1 by omega, stN, show ((i.toNat : Nat) : Int) = i by omega]
def pEr (c : Int → Int) : Int → Bool := fun i => decide (stN c (i + 1).toNat = -1)
/-- the first error's place -/
def erI (c : Int → Int) (n : Int) : Int := if frst (pEr c) n.toNat 0 = -1 then n else frst (pEr c) n.toNat 0
