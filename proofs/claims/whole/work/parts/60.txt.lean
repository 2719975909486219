/-! the text, as both read it -/
def nX (m : St) (Q : Int) : Int := if Q < m 14 0 0 7 then m 19 0 0 Q else 0
def rdS (m g : St) (Q : Int) : Prop := g 14 0 0 8 = Q ∧ g 14 0 0 7 = m 14 0 0 7 ∧ g 19 = m 19
theorem rd_nx {m g : St} {Q : Int} (h : rdS m g Q) : nx g = nX m Q := by
  unfold nx nX; rw [h.1, h.2.1, h.2.2]
theorem rd_up {m g : St} {Q q v : Int} (h : rdS m g Q) (h7 : q ≠ 7) (h8 : q ≠ 8) : rdS m (up g 14 0 0 q v) Q := ⟨by rw [up_i (Ne.symm h8)]; exact h.1, by rw [up_i (Ne.symm h7)]; exact h.2.1, by rw [up_ff (by decide)]; exact h.2.2⟩
theorem rd_at {m g : St} {Q : Int} (h : rdS m g Q) : rdS m (atS g) (Q + 1) := ⟨by unfold atS; rw [up_s, h.1], by unfold atS; rw [up_i (by decide)]; exact h.2.1, by unfold atS; rw [up_ff (by decide)]; exact h.2.2⟩
theorem rd_dg1 {m g : St} {Q a b : Int} (h : rdS m g Q) (hd : a ≤ nX m Q - 48 ∧ nX m Q - 48 ≤ b) : rdS m (dgG g a b) (Q + 1) ∧ dgR g a b = nX m Q - 48 := by
  unfold dgG dgR; rw [rd_nx h, if_pos hd, if_pos hd]; exact ⟨rd_at h, rfl⟩
theorem rd_dg0 {m g : St} {Q a b : Int} (h : rdS m g Q) (hd : ¬ (a ≤ nX m Q - 48 ∧ nX m Q - 48 ≤ b)) : rdS m (dgG g a b) Q ∧ dgR g a b = -1 := by
  unfold dgG dgR; rw [rd_nx h, if_neg hd, if_neg hd]; exact ⟨h, rfl⟩
theorem rd_fs1 {m g : St} {Q a b : Int} (h : rdS m g Q) (hd : a ≤ nX m Q - 48 ∧ nX m Q - 48 ≤ b) : rdS m (fsB g a b) (Q + 1) := rd_up (rd_dg1 h hd).1 (by decide) (by decide)
theorem rd_fs0 {m g : St} {Q a b : Int} (h : rdS m g Q) (hd : ¬ (a ≤ nX m Q - 48 ∧ nX m Q - 48 ≤ b)) : rdS m (fsB g a b) Q := rd_up (rd_dg0 h hd).1 (by decide) (by decide)
theorem rd_sn1 {m g : St} {Q a b s : Int} (h : rdS m g Q) (hd : a ≤ nX m Q - 48 ∧ nX m Q - 48 ≤ b) : rdS m (snB g a b s) (Q + 1) := rd_up (rd_dg1 h hd).1 (by decide) (by decide)
theorem rd_sn0 {m g : St} {Q a b s : Int} (h : rdS m g Q) (hd : ¬ (a ≤ nX m Q - 48 ∧ nX m Q - 48 ≤ b)) : rdS m (snB g a b s) Q := rd_up (rd_dg0 h hd).1 (by decide) (by decide)
theorem rd_tk {m g : St} {Q c : Int} (h : rdS m g Q) (hc : nX m Q = c) : rdS m (tkG g c) (Q + 1) := by
  unfold tkG; rw [rd_nx h, if_pos hc]; exact rd_at h
/-- where the reading fails: at the text's end, or at a character that can't stand there -/
def FL (m : St) (Q : Int) : Prop := (Q = m 14 0 0 7 ∧ stN (m 19 0 0) Q.toNat ≠ -1 ∧ stN (m 19 0 0) Q.toNat ≠ 8 ∧ stN (m 19 0 0) Q.toNat ≠ 9) ∨ (Q < m 14 0 0 7 ∧ stN (m 19 0 0) Q.toNat ≠ -1 ∧ stN (m 19 0 0) (Q + 1).toNat = -1)
theorem FL_of {m : St} {Q s : Int} (h0 : 0 ≤ Q) (hn : Q ≤ m 14 0 0 7) (hs : stN (m 19 0 0) Q.toNat = s) (h7 : 0 ≤ s ∧ s ≤ 7) (hf : stA s (nX m Q) = -1) : FL m Q := by
  by_cases h : Q < m 14 0 0 7
  · right
    refine ⟨h, by omega, ?_⟩
    unfold nX at hf; rw [if_pos h] at hf
    rw [stN_s h0, hs]; exact hf
  · exact Or.inl ⟨by omega, by omega, by omega, by omega⟩
theorem OK_of {m : St} {Q s : Int} (h0 : 0 ≤ Q) (hs : stN (m 19 0 0) Q.toNat = s) (hx : nX m Q ≠ 0) : Q < m 14 0 0 7 ∧ m 19 0 0 Q = nX m Q ∧ stN (m 19 0 0) (Q + 1).toNat = stA s (nX m Q) := by
  unfold nX at hx ⊢
  by_cases h : Q < m 14 0 0 7
  · rw [if_pos h, stN_s h0, hs]; exact ⟨h, rfl, rfl⟩
  · rw [if_neg h] at hx; exact absurd rfl hx
theorem sa_1 (c : Int) : stA 1 c = if isPl c then 2 else -1 := by unfold stA; simp
theorem sa_2 (c : Int) : stA 2 c = if c = 61 then 3 else -1 := by unfold stA; simp
theorem sa_3 (c : Int) : stA 3 c = if isDg c then 9 else -1 := by unfold stA; simp
theorem sa_4 (c : Int) : stA 4 c = if isPl c then 5 else -1 := by unfold stA; simp
theorem sa_5 (c : Int) : stA 5 c = if c = 43 ∨ c = 45 then 6 else -1 := by unfold stA; simp
theorem sa_6 (c : Int) : stA 6 c = if isDg c ∧ c ≠ 48 then 9 else -1 := by unfold stA; simp
theorem sa_7 (c : Int) : stA 7 c = if isDg c ∧ c ≠ 48 then 8 else -1 := by unfold stA; simp
theorem sa_8 (c : Int) : stA 8 c = if isDg c then 9 else saO c := by unfold stA; simp
theorem sa_9 (c : Int) : stA 9 c = saO c := by unfold stA; simp
/-- an order that is read: where, and what -/
def ROK (m u : St) (P Q : Int) : Prop := rdS m u Q ∧ P < Q ∧ Q ≤ m 14 0 0 7 ∧ (stN (m 19 0 0) Q.toNat = 9 ∨ (stN (m 19 0 0) Q.toNat = 8 ∧ ¬ isDg (nX m Q))) ∧ (∀ j, P ≤ j → j < Q → m 19 0 0 j ≠ 59) ∧ u 14 0 0 9 = nX m P ∧ (nX m P = 99 → P + 3 < m 14 0 0 7 ∧ u 14 0 0 10 = nX m (P + 1) - 48 ∧ u 14 0 0 11 = nX m (P + 3) - 48) ∧ (nX m P = 109 → P + 3 < m 14 0 0 7 ∧ u 14 0 0 10 = nX m (P + 1) - 48 ∧ u 14 0 0 11 = if nX m (P + 2) = 45 then -(nX m (P + 3) - 48) else nX m (P + 3) - 48) ∧ (nX m P ≠ 99 → nX m P ≠ 109 → P + 1 < m 14 0 0 7 ∧ u 14 0 0 10 = if isDg (nX m (P + 2)) then 10 * (nX m (P + 1) - 48) + (nX m (P + 2) - 48) else nX m (P + 1) - 48)
def RSP (m u : St) (r P : Int) : Prop := (r = 0 ∧ ∃ Q, rdS m u Q ∧ P ≤ Q ∧ FL m Q) ∨ (r = 1 ∧ ∃ Q, ROK m u P Q)
theorem rc_spec {m g : St} {P : Int} (h0 : 0 ≤ P) (hc : nX m P = 99) (hg : rdS m g (P + 1)) (h9 : g 14 0 0 9 = 99) (hs : stN (m 19 0 0) P.toNat = 0) : RSP m (rcG g) (rcR g) P := by
  obtain ⟨l0, x0, s1⟩ := OK_of h0 hs (by omega)
  rw [hc] at s1 x0
  have s1 : stN (m 19 0 0) (P + 1).toNat = 1 := s1
  unfold rcG rcR
  by_cases d1 : 0 ≤ nX m (P + 1) - 48 ∧ nX m (P + 1) - 48 ≤ 3
  · have a1 := rd_fs1 hg d1
    have r1 := (rd_dg1 hg d1).2
    have f10 := fs_10 g 0 3
    have f9 := fs_9 g 0 3
    obtain ⟨l1, x1, s2⟩ := OK_of (by omega) s1 (by omega)
    rw [sa_1, if_pos (by omega)] at s2
    have nr : ¬ dgR g 0 3 = -1 := by omega
    rw [if_neg nr, if_neg nr]
    by_cases d2 : nX m (P + 1 + 1) = 61
    · obtain ⟨l2, x2, s3⟩ := OK_of (by omega) s2 (by omega)
      rw [sa_2, if_pos d2] at s3
      have a2 := rd_tk a1 d2
      rw [rd_nx a1, if_pos d2, if_pos d2]
      by_cases d3 : 0 ≤ nX m (P + 1 + 1 + 1) - 48 ∧ nX m (P + 1 + 1 + 1) - 48 ≤ 9
      · obtain ⟨l3, x3, s4⟩ := OK_of (by omega) s3 (by omega)
        rw [sa_3, if_pos (by omega)] at s4
        have r3 := (rd_dg1 a2 d3).2
        have e3 : P + 3 = P + 1 + 1 + 1 := by omega
        rw [if_neg (show ¬ dgR _ _ 9 = -1 by omega)]
        refine Or.inr ⟨rfl, P + 1 + 1 + 1 + 1, rd_sn1 a2 d3, by omega, by omega, Or.inl s4, fun j j0 j1 => ?_, ?_, fun _ => ⟨by omega, ?_, ?_⟩, fun hx => by omega, fun hx => absurd hc hx⟩
        · have : j = P ∨ j = P + 1 ∨ j = P + 1 + 1 ∨ j = P + 1 + 1 + 1 := by omega
          rcases this with rfl | rfl | rfl | rfl <;> omega
        · rw [sn_x _ _ _ _ (by decide) (by decide), tk_x (by decide), f9, h9, hc]
        · rw [sn_x _ _ _ _ (by decide) (by decide), tk_x (by decide), f10, r1]
        · rw [sn_11, r3, e3]; omega
      · have r3 := (rd_dg0 a2 d3).2
        rw [if_pos r3]
        refine Or.inl ⟨rfl, P + 1 + 1 + 1, rd_sn0 a2 d3, by omega, FL_of (by omega) (by omega) s3 (by decide) (by rw [sa_3, if_neg (by omega)])⟩
    · rw [rd_nx a1, if_neg d2, if_neg d2]
      exact Or.inl ⟨rfl, P + 1 + 1, a1, by omega, FL_of (by omega) (by omega) s2 (by decide) (by rw [sa_2, if_neg d2])⟩
  · have r1 := (rd_dg0 hg d1).2
    rw [if_pos r1, if_pos r1]
    exact Or.inl ⟨rfl, P + 1, rd_fs0 hg d1, by omega, FL_of (by omega) (by omega) s1 (by decide) (by rw [sa_1, if_neg (by omega)])⟩
theorem rw_spec {m g : St} {P : Int} (h0 : 0 ≤ P) (hc : nX m P = 109) (hg : rdS m g (P + 1)) (h9 : g 14 0 0 9 = 109) (hs : stN (m 19 0 0) P.toNat = 0) : RSP m (rwG g) (rwR g) P := by
  obtain ⟨l0, x0, s1⟩ := OK_of h0 hs (by omega)
  rw [hc] at s1 x0
  have s1 : stN (m 19 0 0) (P + 1).toNat = 4 := s1
  unfold rwG rwR
  by_cases d1 : 0 ≤ nX m (P + 1) - 48 ∧ nX m (P + 1) - 48 ≤ 3
  · have a1 := rd_fs1 hg d1
    have r1 := (rd_dg1 hg d1).2
    have f10 := fs_10 g 0 3
    have f9 := fs_9 g 0 3
    obtain ⟨l1, x1, s2⟩ := OK_of (by omega) s1 (by omega)
    rw [sa_4, if_pos (by omega)] at s2
    have e2 : P + 2 = P + 1 + 1 := by omega
    have e3 : P + 3 = P + 1 + 1 + 1 := by omega
    have nr : ¬ dgR g 0 3 = -1 := by omega
    rw [if_neg nr, if_neg nr, rd_nx a1]
    by_cases d2 : nX m (P + 1 + 1) = 43
    · obtain ⟨l2, x2, s3⟩ := OK_of (by omega) s2 (by omega)
      rw [sa_5, if_pos (Or.inl d2)] at s3
      have a2 := rd_tk a1 d2
      rw [if_pos d2, if_pos d2]
      by_cases d3 : 1 ≤ nX m (P + 1 + 1 + 1) - 48 ∧ nX m (P + 1 + 1 + 1) - 48 ≤ 9
      · obtain ⟨l3, x3, s4⟩ := OK_of (by omega) s3 (by omega)
        rw [sa_6, if_pos (by omega)] at s4
        have r3 := (rd_dg1 a2 d3).2
        rw [if_neg (show ¬ dgR _ _ 9 = -1 by omega)]
        refine Or.inr ⟨rfl, P + 1 + 1 + 1 + 1, rd_sn1 a2 d3, by omega, by omega, Or.inl s4, fun j j0 j1 => ?_, ?_, fun hx => by omega, fun _ => ⟨by omega, ?_, ?_⟩, fun _ hx => absurd hc hx⟩
        · have : j = P ∨ j = P + 1 ∨ j = P + 1 + 1 ∨ j = P + 1 + 1 + 1 := by omega
          rcases this with rfl | rfl | rfl | rfl <;> omega
        · rw [sn_x _ _ _ _ (by decide) (by decide), tk_x (by decide), f9, h9, hc]
        · rw [sn_x _ _ _ _ (by decide) (by decide), tk_x (by decide), f10, r1]
        · rw [sn_11, r3, e2, e3, if_neg (by omega)]; omega
      · have r3 := (rd_dg0 a2 d3).2
        rw [if_pos r3]
        refine Or.inl ⟨rfl, P + 1 + 1 + 1, rd_sn0 a2 d3, by omega, FL_of (by omega) (by omega) s3 (by decide) (by rw [sa_6, if_neg (by omega)])⟩
    · rw [if_neg d2, if_neg d2]
      by_cases d4 : nX m (P + 1 + 1) = 45
      · obtain ⟨l2, x2, s3⟩ := OK_of (by omega) s2 (by omega)
        rw [sa_5, if_pos (Or.inr d4)] at s3
        have a2 := rd_tk a1 d4
        rw [if_pos d4, if_pos d4]
        by_cases d3 : 1 ≤ nX m (P + 1 + 1 + 1) - 48 ∧ nX m (P + 1 + 1 + 1) - 48 ≤ 9
        · obtain ⟨l3, x3, s4⟩ := OK_of (by omega) s3 (by omega)
          rw [sa_6, if_pos (by omega)] at s4
          have r3 := (rd_dg1 a2 d3).2
          rw [if_neg (by omega)]
          refine Or.inr ⟨rfl, P + 1 + 1 + 1 + 1, rd_sn1 a2 d3, by omega, by omega, Or.inl s4, fun j j0 j1 => ?_, ?_, fun hx => by omega, fun _ => ⟨by omega, ?_, ?_⟩, fun _ hx => absurd hc hx⟩
          · have : j = P ∨ j = P + 1 ∨ j = P + 1 + 1 ∨ j = P + 1 + 1 + 1 := by omega
            rcases this with rfl | rfl | rfl | rfl <;> omega
          · rw [sn_x _ _ _ _ (by decide) (by decide), tk_x (by decide), f9, h9, hc]
          · rw [sn_x _ _ _ _ (by decide) (by decide), tk_x (by decide), f10, r1]
          · rw [sn_11, r3, e2, e3, if_pos d4]; omega
        · have r3 := (rd_dg0 a2 d3).2
          rw [if_pos r3]
          refine Or.inl ⟨rfl, P + 1 + 1 + 1, rd_sn0 a2 d3, by omega, FL_of (by omega) (by omega) s3 (by decide) (by rw [sa_6, if_neg (by omega)])⟩
      · rw [if_neg d4, if_neg d4]
        exact Or.inl ⟨rfl, P + 1 + 1, a1, by omega, FL_of (by omega) (by omega) s2 (by decide) (by rw [sa_5, if_neg (by omega)])⟩
  · have r1 := (rd_dg0 hg d1).2
    rw [if_pos r1, if_pos r1]
    exact Or.inl ⟨rfl, P + 1, rd_fs0 hg d1, by omega, FL_of (by omega) (by omega) s1 (by decide) (by rw [sa_4, if_neg (by omega)])⟩
theorem rt_spec {m g : St} {P : Int} (h0 : 0 ≤ P) (hc : nX m P = 116) (hg : rdS m g (P + 1)) (h9 : g 14 0 0 9 = 116) (hs : stN (m 19 0 0) P.toNat = 0) : RSP m (rtG g) (rtR g) P := by
  obtain ⟨l0, x0, s1⟩ := OK_of h0 hs (by omega)
  rw [hc] at s1 x0
  have s1 : stN (m 19 0 0) (P + 1).toNat = 7 := s1
  have e2 : P + 2 = P + 1 + 1 := by omega
  unfold rtG rtR
  by_cases d1 : 1 ≤ nX m (P + 1) - 48 ∧ nX m (P + 1) - 48 ≤ 9
  · have a1 := rd_fs1 hg d1
    have r1 := (rd_dg1 hg d1).2
    have f9 := fs_9 g 1 9
    obtain ⟨l1, x1, s2⟩ := OK_of (by omega) s1 (by omega)
    rw [sa_7, if_pos (by omega)] at s2
    have nr : ¬ dgR g 1 9 = -1 := by omega
    rw [if_neg nr, if_neg nr]
    by_cases d2 : 0 ≤ nX m (P + 1 + 1) - 48 ∧ nX m (P + 1 + 1) - 48 ≤ 9
    · obtain ⟨l2, x2, s3⟩ := OK_of (by omega) s2 (by omega)
      rw [sa_8, if_pos (by omega)] at s3
      have r2 := (rd_dg1 a1 d2).2
      have a2 := (rd_dg1 a1 d2).1
      have nr2 : ¬ dgR (fsB g 1 9) 0 9 = -1 := by omega
      rw [if_neg nr2]
      refine Or.inr ⟨rfl, P + 1 + 1 + 1, rd_up a2 (by decide) (by decide), by omega, by omega, Or.inl s3, fun j j0 j1 => ?_, ?_, fun hx => by omega, fun hx => by omega, fun _ _ => ⟨by omega, ?_⟩⟩
      · have : j = P ∨ j = P + 1 ∨ j = P + 1 + 1 := by omega
        rcases this with rfl | rfl | rfl <;> omega
      · rw [up_i (by decide), dg_x (by decide), f9, h9, hc]
      · rw [up_s, r1, r2, e2, if_pos (by omega)]
    · have r2 := (rd_dg0 a1 d2).2
      have a2 := (rd_dg0 a1 d2).1
      rw [if_pos r2]
      refine Or.inr ⟨rfl, P + 1 + 1, rd_up a2 (by decide) (by decide), by omega, by omega, Or.inr ⟨s2, by omega⟩, fun j j0 j1 => ?_, ?_, fun hx => by omega, fun hx => by omega, fun _ _ => ⟨by omega, ?_⟩⟩
      · have : j = P ∨ j = P + 1 := by omega
        rcases this with rfl | rfl <;> omega
      · rw [up_i (by decide), dg_x (by decide), f9, h9, hc]
      · rw [up_s, r1, e2, if_neg (by omega)]
  · have r1 := (rd_dg0 hg d1).2
    rw [if_pos r1, if_pos r1]
    exact Or.inl ⟨rfl, P + 1, rd_up (rd_fs0 hg d1) (by decide) (by decide), by omega, FL_of (by omega) (by omega) s1 (by decide) (by rw [sa_7, if_neg (by omega)])⟩
theorem ro_spec {m : St} {P : Int} (hP : m 14 0 0 8 = P) (h0 : 0 ≤ P) (hn : P ≤ m 14 0 0 7) (hs : stN (m 19 0 0) P.toNat = 0) : RSP m (roG m) (roR m) P := by
  have hm : rdS m m P := ⟨hP, rfl, rfl⟩
  have hl : rdS m (ltG m) P := rd_up hm (by decide) (by decide)
  have ha : rdS m (atS (ltG m)) (P + 1) := rd_at hl
  have h9 := alt_9 m
  have hx := rd_nx hm
  rw [hx] at h9
  unfold roG roR
  rw [hx]
  by_cases c1 : nX m P = 99
  · rw [if_pos c1, if_pos c1]; exact rc_spec h0 c1 ha (by omega) hs
  · rw [if_neg c1, if_neg c1]
    by_cases c2 : nX m P = 109
    · rw [if_pos c2, if_pos c2]; exact rw_spec h0 c2 ha (by omega) hs
    · rw [if_neg c2, if_neg c2]
      by_cases c3 : nX m P = 116
      · rw [if_pos c3, if_pos c3]; exact rt_spec h0 c3 ha (by omega) hs
      · rw [if_neg c3, if_neg c3]
        refine Or.inl ⟨rfl, P, hl, Int.le_refl P, FL_of h0 hn hs (by decide) ?_⟩
        show saS (nX m P) = -1
        unfold saS; rw [if_neg c1, if_neg c2, if_neg c3]
/-- what the search for an error says -/
def FES (m : St) (e : Int) : Prop := (e = -1 ∧ (stN (m 19 0 0) (m 14 0 0 7).toNat = 9 ∨ stN (m 19 0 0) (m 14 0 0 7).toNat = 8)) ∨ (0 ≤ e ∧ FL m e)
theorem FL_x {m u : St} {Q : Int} (h7 : u 14 0 0 7 = m 14 0 0 7) (h19 : u 19 = m 19) (h : FL u Q) : FL m Q := by
  unfold FL at *; rw [h7, h19] at h; exact h
theorem nX_x {m u : St} {Q : Int} (h7 : u 14 0 0 7 = m 14 0 0 7) (h19 : u 19 = m 19) : nX u Q = nX m Q := by unfold nX; rw [h7, h19]
theorem fe_spec : ∀ (n : Nat) {m : St} {P : Int}, m 14 0 0 8 = P → 0 ≤ P → P ≤ m 14 0 0 7 → stN (m 19 0 0) P.toNat = 0 → m 14 0 0 7 - P < n → FES m (fe n m).2
  | 0, m, P, hP, h0, hn, hs, hf => by omega
  | n + 1, m, P, hP, h0, hn, hs, hf => by
    rw [fe]
    rcases ro_spec hP h0 hn hs with ⟨r, Q, hq, hPQ, hfl⟩ | ⟨r, Q, hq, hPQ, hQ, hst, -, -⟩
    · rw [if_pos r]
      right
      show 0 ≤ roG m 14 0 0 8 ∧ FL m (roG m 14 0 0 8)
      rw [hq.1]; exact ⟨by omega, hfl⟩
    · rw [if_neg (by omega), hq.1, hq.2.1, rd_nx hq]
      by_cases hE : Q = m 14 0 0 7
      · rw [if_pos hE]
        left
        refine ⟨rfl, ?_⟩
        rw [← hE]; exact hst.imp id (fun h => h.1)
      · rw [if_neg hE]
        have xQ : nX m Q = m 19 0 0 Q := if_pos (by omega)
        by_cases h59 : nX m Q = 59
        · rw [if_pos h59]
          have hk := rd_tk hq h59
          have hs2 : stN (m 19 0 0) (Q + 1).toNat = 0 := by
            rw [stN_s (by omega), ← xQ, h59]
            rcases hst with h | ⟨h, -⟩
            · rw [h]; rfl
            · rw [h]; rfl
          have ih := fe_spec n (m := tkG (roG m) 59) (P := Q + 1) hk.1 (by omega) (by rw [hk.2.1]; omega) (by rw [hk.2.2]; exact hs2) (by rw [hk.2.1]; omega)
          unfold FES at ih ⊢
          rw [hk.2.1, hk.2.2] at ih
          exact ih.imp id (fun h => ⟨h.1, FL_x hk.2.1 hk.2.2 h.2⟩)
        · rw [if_neg h59]
          right
          refine ⟨by show 0 ≤ Q; omega, Or.inr ⟨by show Q < _; omega, ?_, ?_⟩⟩
          · show stN (m 19 0 0) Q.toNat ≠ -1
            rcases hst with h | ⟨h, -⟩ <;> omega
          · show stN (m 19 0 0) (Q + 1).toNat = -1
            rw [stN_s (by omega), ← xQ]
            have ho : saO (nX m Q) = -1 := if_neg h59
            rcases hst with h | ⟨h, hd⟩
            · rw [h, sa_9]; exact ho
            · rw [h, sa_8, if_neg hd]; exact ho
theorem stN_cg {c d : Int → Int} : ∀ n : Nat, (∀ i : Int, 0 ≤ i → i < n → c i = d i) → stN c n = stN d n
  | 0, _ => rfl
  | n + 1, h => by rw [stN, stN, stN_cg n (fun i a b => h i a (by omega)), h n (by omega) (by omega)]
theorem frst_at {P : Int → Bool} {e : Int} : ∀ (n : Nat) (a : Int), a ≤ e → e < a + n → (∀ i, a ≤ i → i < e → P i = false) → P e = true → frst P n a = e
  | 0, a, h1, h2, _, _ => by omega
  | n + 1, a, h1, h2, h3, h4 => by
    rw [frst]
    by_cases h : a = e
    · subst h; rw [if_pos h4]
    · rw [if_neg (by rw [h3 a (Int.le_refl a) (by omega)]; decide)]
      exact frst_at n (a + 1) (by omega) (by omega) (fun i a1 b1 => h3 i (by omega) b1) h4
theorem frst_none {P : Int → Bool} : ∀ (n : Nat) (a : Int), (∀ i, a ≤ i → i < a + n → P i = false) → frst P n a = -1
  | 0, _, _ => rfl
  | n + 1, a, h => by
    rw [frst, if_neg (by rw [h a (Int.le_refl a) (by omega)]; decide)]
    exact frst_none n (a + 1) (fun i a1 b1 => h i (by omega) (by omega))
/-- class and reference: the first error, whether the text tells turns -/
theorem er_tie {g m : St} {e : Int} (hl : 0 ≤ g 12 0 0 1 ∧ g 12 0 0 1 ≤ 60) (h7 : g 12 0 0 1 = m 14 0 0 7) (hc : ∀ i, 0 ≤ i → i < 60 → g 13 0 0 i = m 19 0 0 i) (h : FES m e) : erI (g 13 0 0) (g 12 0 0 1) = (if e = -1 then m 14 0 0 7 else e) ∧ ((stN (g 13 0 0) (g 12 0 0 1).toNat = 9 ∨ stN (g 13 0 0) (g 12 0 0 1).toNat = 8) ↔ e = -1) := by
  have es : ∀ n : Nat, (n : Int) ≤ 60 → stN (g 13 0 0) n = stN (m 19 0 0) n := fun n hn => stN_cg n (fun i a b => hc i a (by omega))
  have eN : stN (g 13 0 0) (g 12 0 0 1).toNat = stN (m 19 0 0) (m 14 0 0 7).toNat := by rw [es _ (by omega), h7]
  have noE : stN (m 19 0 0) (m 14 0 0 7).toNat ≠ -1 → erI (g 13 0 0) (g 12 0 0 1) = m 14 0 0 7 := fun hx => by
    have hf : frst (pEr (g 13 0 0)) (g 12 0 0 1).toNat 0 = -1 := frst_none _ 0 (fun i a b => decide_eq_false (by
      rw [es _ (by omega)]
      exact stN_ok hx (by omega)))
    unfold erI; rw [if_pos hf, h7]
  rw [eN]
  rcases h with ⟨rfl, h⟩ | ⟨h0, ⟨rfl, h1, h2, h3⟩ | ⟨h1, h2, h3⟩⟩
  · exact ⟨by rw [if_pos rfl]; exact noE (by omega), ⟨fun _ => rfl, fun _ => h⟩⟩
  · exact ⟨by rw [if_neg (by omega)]; exact noE h1, ⟨fun hx => by omega, fun hx => by omega⟩⟩
  · have hf : frst (pEr (g 13 0 0)) (g 12 0 0 1).toNat 0 = e := frst_at _ 0 h0 (by omega) (fun i a b => decide_eq_false (by
      rw [es _ (by omega)]
      exact stN_ok h2 (by omega))) (decide_eq_true (by rw [es _ (by omega)]; exact h3))
    have hN : stN (m 19 0 0) (m 14 0 0 7).toNat = -1 := by
      have := stN_m (m 19 0 0) (e + 1).toNat h3 ((m 14 0 0 7).toNat - (e + 1).toNat)
      rw [show (e + 1).toNat + ((m 14 0 0 7).toNat - (e + 1).toNat) = (m 14 0 0 7).toNat by omega] at this
      exact this
    refine ⟨?_, ⟨fun hx => by omega, fun hx => by omega⟩⟩
    unfold erI; rw [hf, if_neg (by omega), if_neg (by omega)]
