/-! class and reference: an order -/
def oTie (g m : St) (i : Int) : Prop := m 14 0 0 9 = cdA g i ∧ (cdA g i = 99 → m 14 0 0 10 = cdA g (i + 1) - 48 ∧ m 14 0 0 11 = cdA g (i + 3) - 48) ∧ (cdA g i = 109 → m 14 0 0 10 = cdA g (i + 1) - 48 ∧ m 14 0 0 11 = oSt g i) ∧ (cdA g i ≠ 99 → cdA g i ≠ 109 → m 14 0 0 10 = oTu g i)
theorem do_tie {g u m : St} {i z : Int} (hw : wf g 0 1) (h6 : c6 g) (hm : wm (m 15 0 0) 1) (hR : tie g 0 m) (hv : vC g i) (ho : oTie g m i) (h : do1 g u i z) : tie u 0 (doM m) ∧ z = doR m := by
  have r3 := hR.2.1.1
  unfold doM doR
  rw [ho.1]
  rcases h with ⟨h1, y, h2, rfl⟩ | ⟨h1, rfl, rfl⟩ | ⟨⟨h1, h1b⟩, ⟨hn, rfl, rfl⟩ | ⟨h2, rfl, y, h3⟩⟩
  · have a := hv.1 h1
    have o := ho.2.1 h1
    have s := se_tie hw h6 hm a.1 a.2 hR h2
    rw [if_pos h1, if_pos h1, o.1, o.2, s.2]
    exact ⟨s.1, rfl⟩
  · have a := hv.2.1 h1
    have o := ho.2.2.1 h1
    have s := mv_tie (b := oSt g i) a.1 hR
    have n99 : ¬ cdA g i = 99 := by omega
    rw [if_neg n99, if_pos h1, if_neg n99, if_pos h1, o.1, o.2, s.2]
    exact ⟨s.1, rfl⟩
  · have o := ho.2.2.2 h1 h1b
    rw [if_neg h1, if_neg h1b, if_neg h1, if_neg h1b, o, if_neg (by omega), if_neg (by omega)]
    exact ⟨hR, rfl⟩
  · have a := hv.2.2 h1 h1b
    have o := ho.2.2.2 h1 h1b
    have s := trs_tie (oTu g i).toNat hw h6 hm (by omega) hR h3
    rw [if_neg h1, if_neg h1b, if_neg h1, if_neg h1b, o, if_pos (by omega), if_pos (by omega)]
    exact ⟨s.1, rfl⟩
