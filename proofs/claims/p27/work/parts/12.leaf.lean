/-! pure words of the ball -/
theorem emod_in {x b : Int} (h : 0 < b) : 0 ≤ x % b ∧ x % b < b := ⟨Int.emod_nonneg x (by omega), Int.emod_lt_of_pos x h⟩
/-- the ball k, at p, its direction r -/
def bl (g : St) (k p r : Int) : St := fun f' k' j' i' => if f' = 3 ∧ k' = k ∧ j' = 0 ∧ i' = 0 then p else if f' = 3 ∧ k' = k ∧ j' = 0 ∧ i' = 2 then r else g f' k' j' i'
def stepR (p r last : Int) : Int := if r = 0 then (if p ≤ 0 then 1 else 0) else (if p ≥ last then 0 else 1)
def stepP (p r last : Int) : Int := if stepR p r last = 0 then p - 1 else p + 1
def bstep (last : Int) (q : Int × Int) : Int × Int := (stepP q.1 q.2 last, stepR q.1 q.2 last)
def bwalk (last : Int) : Nat → Int × Int → Int × Int
  | 0, q => q
  | n + 1, q => bstep last (bwalk last n q)
theorem stepR_01 (p r last : Int) : stepR p r last = 0 ∨ stepR p r last = 1 := by unfold stepR; split <;> split <;> simp
theorem stepP_in {p r last : Int} (h1 : 1 ≤ last) (hp : 0 ≤ p ∧ p ≤ last) : 0 ≤ stepP p r last ∧ stepP p r last ≤ last := by
  unfold stepP stepR; split <;> split at * <;> split at * <;> omega
theorem bwalk_in {last : Int} (h1 : 1 ≤ last) {q : Int × Int} (hp : 0 ≤ q.1 ∧ q.1 ≤ last) (hr : q.2 = 0 ∨ q.2 = 1) : ∀ n, (0 ≤ (bwalk last n q).1 ∧ (bwalk last n q).1 ≤ last) ∧ ((bwalk last n q).2 = 0 ∨ (bwalk last n q).2 = 1)
  | 0 => ⟨hp, hr⟩
  | n + 1 => ⟨stepP_in h1 (bwalk_in h1 hp hr n).1, stepR_01 _ _ _⟩
theorem bl_bl (g : St) (k p r p2 r2 : Int) : bl (bl g k p r) k p2 r2 = bl g k p2 r2 := by
  funext f' k' j' i'; simp only [bl]; grind
theorem bl_self (g : St) (k : Int) : bl g k (g 3 k 0 0) (g 3 k 0 2) = g := by
  funext f' k' j' i'; simp only [bl]; grind
/-- the place unfolded: in t turns -/
def unf (p s r t last : Int) : Int := if ((if r = 0 then 2 * last - p else p) + s * t) % (2 * last) ≤ last then ((if r = 0 then 2 * last - p else p) + s * t) % (2 * last) else 2 * last - ((if r = 0 then 2 * last - p else p) + s * t) % (2 * last)
def fwR (r w : Int) : Int := if w % 3 = 0 then 1 - r else r
def fwS (s w : Int) : Int := if w % 3 = 0 then s else if w % 3 = 1 then min (s + 1) 9 else max (s - 1) 1

theorem cw_RX0_22 : CW RX0 22 RX0 yX0_goStep cX0_goStep 2 none 1 := ⟨u_15_4, u_15_5, u_15_6, u_2_3, u_15_7, by decide +kernel⟩
set_option maxHeartbeats 4000000 in
set_option maxRecDepth 100000 in
theorem ct_X0_rightNumber (l : Launch) (L : Lay) (g : St) (k : Int) (hk0 : 0 ≤ k) (hk1 : k < 10) (hr0 : g 3 k 0 2 = 0 ∨ g 3 k 0 2 = 1) : Met l yX0_rightNumber (.code yX0_rightNumber cX0_rightNumber 1 (some .int) :: wsL_law) { frames := 0, cells := 0, slots := 0, locals := 0 } (va_Pc [.ref (adr L 3 k 0)] (HS L g)) (va_Qi (fun (r9 : Int32) (u9 : St) => r9 = iI (g 3 k 0 2) ∧ u9 = g) (fun u t => HS L u t) (Af L)) 0 0 (Af L) := by
  refine ct_mk (by decide +kernel) (Nat.le_of_ble_eq_true rfl) ?_
  intro pp ee ss mm bel mth cx C hr hlk
  show V pp l ee { frames := 0, cells := 0, slots := 0, locals := 0 } ss mm ([.ref (adr L 3 k 0)]).toArray bel mth cx 1 L (HH L g) 0 0 _ 0 [(0, .ref (adr L 3 k 0))] []
  refine v_aload_n (pc := 0) C 0 rfl rfl dX0_rightNumber_0 ?_
  refine gt_3_2 (pc := 1) C ⟨by (first | assumption | omega | (simp [bl, up] <;> omega)), by (first | assumption | omega | (simp [bl, up] <;> omega))⟩ u_3_0 dX0_rightNumber_1 (g 3 k 0 2) (rfl) ?_
  refine v_if_eq (pc := 4) C 11 ⟨by (first | assumption | omega | (simp [bl, up] <;> omega)), by (first | assumption | omega | (simp [bl, up] <;> omega))⟩ (by decide) dX0_rightNumber_4 (fun h4 => ?_) (fun h4 => ?_)
  · skip
    refine v_iconst (pc := 11) C dX0_rightNumber_11 ?_
    exact v_iret (pc := 12) C hr hlk (⟨congrArg iI (by omega), rfl⟩) dX0_rightNumber_12
  · skip
    refine v_iconst (pc := 7) C dX0_rightNumber_7 ?_
    refine v_goto (pc := 8) C 12 (by decide) dX0_rightNumber_8 ?_
    exact v_iret (pc := 12) C hr hlk (⟨congrArg iI (by omega), rfl⟩) dX0_rightNumber_12
set_option maxHeartbeats 4000000 in
set_option maxRecDepth 100000 in
theorem ct_X0_copyFrom (l : Launch) (L : Lay) (g : St) (k o : Int) (hk0 : 0 ≤ k) (hk1 : k < 10) (ho0 : 0 ≤ o) (ho1 : o < 10) (hr0 : g 3 o 0 2 = 0 ∨ g 3 o 0 2 = 1) : Met l yX0_copyFrom (.code yX0_copyFrom cX0_copyFrom 2 none :: wsL_law) { frames := 0, cells := 0, slots := 0, locals := 0 } (va_Pc [.ref (adr L 3 k 0), .ref (adr L 3 o 0)] (HS L g)) (va_Qv (fun (u9 : St) => u9 = (up (up (up g 3 k 0 0 (g 3 o 0 0)) 3 k 0 1 (g 3 o 0 1)) 3 k 0 2 (g 3 o 0 2))) (fun u t => HS L u t) (Af L)) 0 0 (Af L) := by
  refine ct_mk (by decide +kernel) (Nat.le_of_ble_eq_true rfl) ?_
  intro pp ee ss mm bel mth cx C hr hlk
  show V pp l ee { frames := 0, cells := 0, slots := 0, locals := 0 } ss mm ([.ref (adr L 3 k 0), .ref (adr L 3 o 0)]).toArray bel mth cx 2 L (HH L g) 0 0 _ 0 [(0, .ref (adr L 3 k 0)), (1, .ref (adr L 3 o 0))] []
  refine v_aload_n (pc := 0) C 0 rfl rfl dX0_copyFrom_0 ?_
  refine v_aload_n (pc := 1) C 1 rfl rfl dX0_copyFrom_1 ?_
  refine gt_3_0 (pc := 2) C ⟨by (first | assumption | omega | (simp [bl, up] <;> omega)), by (first | assumption | omega | (simp [bl, up] <;> omega))⟩ u_5_21 dX0_copyFrom_2 (g 3 o 0 0) (rfl) ?_
  refine pt_3_0 (pc := 5) C ⟨by (first | assumption | omega | (simp [bl, up] <;> omega)), by (first | assumption | omega | (simp [bl, up] <;> omega))⟩ u_5_21 dX0_copyFrom_5 ?_
  refine v_aload_n (pc := 8) C 0 rfl rfl dX0_copyFrom_8 ?_
  refine v_aload_n (pc := 9) C 1 rfl rfl dX0_copyFrom_9 ?_
  refine gt_3_1 (pc := 10) C ⟨by (first | assumption | omega | (simp [bl, up] <;> omega)), by (first | assumption | omega | (simp [bl, up] <;> omega))⟩ u_2_23 dX0_copyFrom_10 (g 3 o 0 1) (by simp [up]) ?_
  refine pt_3_1 (pc := 13) C ⟨by (first | assumption | omega | (simp [bl, up] <;> omega)), by (first | assumption | omega | (simp [bl, up] <;> omega))⟩ u_2_23 dX0_copyFrom_13 ?_
  refine v_aload_n (pc := 16) C 0 rfl rfl dX0_copyFrom_16 ?_
  refine v_aload_n (pc := 17) C 1 rfl rfl dX0_copyFrom_17 ?_
  refine gt_3_2 (pc := 18) C ⟨by (first | assumption | omega | (simp [bl, up] <;> omega)), by (first | assumption | omega | (simp [bl, up] <;> omega))⟩ u_3_0 dX0_copyFrom_18 (g 3 o 0 2) (by simp [up]) ?_
  refine pt_3_2 (pc := 21) C ⟨by (first | assumption | omega | (simp [bl, up] <;> omega)), by (first | assumption | omega | (simp [bl, up] <;> omega))⟩ u_3_0 (by (first | assumption | omega | (simp [bl, up] <;> omega))) dX0_copyFrom_21 ?_
  exact v_vret (pc := 24) C hr hlk (rfl) dX0_copyFrom_24
set_option maxHeartbeats 4000000 in
set_option maxRecDepth 100000 in
theorem ct_X0_goStep (l : Launch) (L : Lay) (g : St) (k a : Int) (hk0 : 0 ≤ k) (hk1 : k < 10) (hp : 0 ≤ g 3 k 0 0 ∧ g 3 k 0 0 ≤ 1000) (ha : 0 ≤ a ∧ a ≤ 1000) (hr0 : g 3 k 0 2 = 0 ∨ g 3 k 0 2 = 1) : Met l yX0_goStep (.code yX0_goStep cX0_goStep 2 none :: wsL_law) { frames := 0, cells := 0, slots := 0, locals := 0 } (va_Pc [.ref (adr L 3 k 0), .int (iI a)] (HS L g)) (va_Qv (fun (u9 : St) => u9 = bl g k (stepP (g 3 k 0 0) (g 3 k 0 2) a) (stepR (g 3 k 0 0) (g 3 k 0 2) a)) (fun u t => HS L u t) (Af L)) 0 0 (Af L) := by
  refine ct_mk (by decide +kernel) (Nat.le_of_ble_eq_true rfl) ?_
  intro pp ee ss mm bel mth cx C hr hlk
  show V pp l ee { frames := 0, cells := 0, slots := 0, locals := 0 } ss mm ([.ref (adr L 3 k 0), .int (iI a)]).toArray bel mth cx 2 L (HH L g) 0 0 _ 0 [(0, .ref (adr L 3 k 0)), (1, .int (iI a))] []
  refine v_aload_n (pc := 0) C 0 rfl rfl dX0_goStep_0 ?_
  refine gt_3_2 (pc := 1) C ⟨by (first | assumption | omega | (simp [bl, up] <;> omega)), by (first | assumption | omega | (simp [bl, up] <;> omega))⟩ u_3_0 dX0_goStep_1 (g 3 k 0 2) (rfl) ?_
  refine v_if_eq (pc := 4) C 18 ⟨by (first | assumption | omega | (simp [bl, up] <;> omega)), by (first | assumption | omega | (simp [bl, up] <;> omega))⟩ (by decide) dX0_goStep_4 (fun h4 => ?_) (fun h4 => ?_)
  · skip
    refine v_aload_n (pc := 18) C 0 rfl rfl dX0_goStep_18 ?_
    refine gt_3_0 (pc := 19) C ⟨by (first | assumption | omega | (simp [bl, up] <;> omega)), by (first | assumption | omega | (simp [bl, up] <;> omega))⟩ u_5_21 dX0_goStep_19 (g 3 k 0 0) (rfl) ?_
    refine v_if_gt (pc := 22) C 41 ⟨by (first | assumption | omega | (simp [bl, up] <;> omega)), by (first | assumption | omega | (simp [bl, up] <;> omega))⟩ (by decide) dX0_goStep_22 (fun h22 => ?_) (fun h22 => ?_)
    · skip
      refine v_aload_n (pc := 41) C 0 rfl rfl dX0_goStep_41 ?_
      refine v_dup (pc := 42) C rfl dX0_goStep_42 ?_
      refine gt_3_0 (pc := 43) C ⟨by (first | assumption | omega | (simp [bl, up] <;> omega)), by (first | assumption | omega | (simp [bl, up] <;> omega))⟩ u_5_21 dX0_goStep_43 (g 3 k 0 0) (rfl) ?_
      refine v_aload_n (pc := 46) C 0 rfl rfl dX0_goStep_46 ?_
      refine gt_3_2 (pc := 47) C ⟨by (first | assumption | omega | (simp [bl, up] <;> omega)), by (first | assumption | omega | (simp [bl, up] <;> omega))⟩ u_3_0 dX0_goStep_47 (g 3 k 0 2) (rfl) ?_
      refine v_if_eq (pc := 50) C 57 ⟨by (first | assumption | omega | (simp [bl, up] <;> omega)), by (first | assumption | omega | (simp [bl, up] <;> omega))⟩ (by decide) dX0_goStep_50 (fun h50 => ?_) (fun h50 => ?_)
      · skip
        refine v_iconst (pc := 57) C dX0_goStep_57 ?_
        refine v_iadd (pc := 58) C dX0_goStep_58 ?_
        refine pt_3_0 (pc := 59) C ⟨by (first | assumption | omega | (simp [bl, up] <;> omega)), by (first | assumption | omega | (simp [bl, up] <;> omega))⟩ u_5_21 dX0_goStep_59 ?_
        exact v_vret (pc := 62) C hr hlk (by funext f' k' j' i'; simp only [bl, up, stepP, stepR]; grind) dX0_goStep_62
      · skip
        exfalso; omega
    · skip
      refine v_aload_n (pc := 25) C 0 rfl rfl dX0_goStep_25 ?_
      refine v_aload_n (pc := 26) C 0 rfl rfl dX0_goStep_26 ?_
      refine gt_3_2 (pc := 27) C ⟨by (first | assumption | omega | (simp [bl, up] <;> omega)), by (first | assumption | omega | (simp [bl, up] <;> omega))⟩ u_3_0 dX0_goStep_27 (g 3 k 0 2) (rfl) ?_
      refine v_if_ne (pc := 30) C 37 ⟨by (first | assumption | omega | (simp [bl, up] <;> omega)), by (first | assumption | omega | (simp [bl, up] <;> omega))⟩ (by decide) dX0_goStep_30 (fun h30 => ?_) (fun h30 => ?_)
      · skip
        exfalso; omega
      · skip
        refine v_iconst (pc := 33) C dX0_goStep_33 ?_
        refine v_goto (pc := 34) C 38 (by decide) dX0_goStep_34 ?_
        refine pt_3_2 (pc := 38) C ⟨by (first | assumption | omega | (simp [bl, up] <;> omega)), by (first | assumption | omega | (simp [bl, up] <;> omega))⟩ u_3_0 (by (first | assumption | omega | (simp [bl, up] <;> omega))) dX0_goStep_38 ?_
        refine v_aload_n (pc := 41) C 0 rfl rfl dX0_goStep_41 ?_
        refine v_dup (pc := 42) C rfl dX0_goStep_42 ?_
        refine gt_3_0 (pc := 43) C ⟨by (first | assumption | omega | (simp [bl, up] <;> omega)), by (first | assumption | omega | (simp [bl, up] <;> omega))⟩ u_5_21 dX0_goStep_43 (g 3 k 0 0) (by simp [up]) ?_
        refine v_aload_n (pc := 46) C 0 rfl rfl dX0_goStep_46 ?_
        refine gt_3_2 (pc := 47) C ⟨by (first | assumption | omega | (simp [bl, up] <;> omega)), by (first | assumption | omega | (simp [bl, up] <;> omega))⟩ u_3_0 dX0_goStep_47 1 (by simp [up]) ?_
        refine v_if_eq (pc := 50) C 57 ⟨by (first | assumption | omega | (simp [bl, up] <;> omega)), by (first | assumption | omega | (simp [bl, up] <;> omega))⟩ (by decide) dX0_goStep_50 (fun h50 => ?_) (fun h50 => ?_)
        · skip
          exfalso; omega
        · skip
          refine v_iconst (pc := 53) C dX0_goStep_53 ?_
          refine v_goto (pc := 54) C 58 (by decide) dX0_goStep_54 ?_
          refine v_iadd (pc := 58) C dX0_goStep_58 ?_
          refine pt_3_0 (pc := 59) C ⟨by (first | assumption | omega | (simp [bl, up] <;> omega)), by (first | assumption | omega | (simp [bl, up] <;> omega))⟩ u_5_21 dX0_goStep_59 ?_
          exact v_vret (pc := 62) C hr hlk (by funext f' k' j' i'; simp only [bl, up, stepP, stepR]; grind) dX0_goStep_62
  · skip
    refine v_aload_n (pc := 7) C 0 rfl rfl dX0_goStep_7 ?_
    refine gt_3_0 (pc := 8) C ⟨by (first | assumption | omega | (simp [bl, up] <;> omega)), by (first | assumption | omega | (simp [bl, up] <;> omega))⟩ u_5_21 dX0_goStep_8 (g 3 k 0 0) (rfl) ?_
    refine v_iload_n (pc := 11) C 1 rfl rfl dX0_goStep_11 ?_
    refine v_icmp_lt (pc := 12) C 41 ⟨by (first | assumption | omega | (simp [bl, up] <;> omega)), by (first | assumption | omega | (simp [bl, up] <;> omega))⟩ ⟨by (first | assumption | omega | (simp [bl, up] <;> omega)), by (first | assumption | omega | (simp [bl, up] <;> omega))⟩ (by decide) dX0_goStep_12 (fun h12 => ?_) (fun h12 => ?_)
    · skip
      refine v_aload_n (pc := 41) C 0 rfl rfl dX0_goStep_41 ?_
      refine v_dup (pc := 42) C rfl dX0_goStep_42 ?_
      refine gt_3_0 (pc := 43) C ⟨by (first | assumption | omega | (simp [bl, up] <;> omega)), by (first | assumption | omega | (simp [bl, up] <;> omega))⟩ u_5_21 dX0_goStep_43 (g 3 k 0 0) (rfl) ?_
      refine v_aload_n (pc := 46) C 0 rfl rfl dX0_goStep_46 ?_
      refine gt_3_2 (pc := 47) C ⟨by (first | assumption | omega | (simp [bl, up] <;> omega)), by (first | assumption | omega | (simp [bl, up] <;> omega))⟩ u_3_0 dX0_goStep_47 (g 3 k 0 2) (rfl) ?_
      refine v_if_eq (pc := 50) C 57 ⟨by (first | assumption | omega | (simp [bl, up] <;> omega)), by (first | assumption | omega | (simp [bl, up] <;> omega))⟩ (by decide) dX0_goStep_50 (fun h50 => ?_) (fun h50 => ?_)
      · skip
        exfalso; omega
      · skip
        refine v_iconst (pc := 53) C dX0_goStep_53 ?_
        refine v_goto (pc := 54) C 58 (by decide) dX0_goStep_54 ?_
        refine v_iadd (pc := 58) C dX0_goStep_58 ?_
        refine pt_3_0 (pc := 59) C ⟨by (first | assumption | omega | (simp [bl, up] <;> omega)), by (first | assumption | omega | (simp [bl, up] <;> omega))⟩ u_5_21 dX0_goStep_59 ?_
        exact v_vret (pc := 62) C hr hlk (by funext f' k' j' i'; simp only [bl, up, stepP, stepR]; grind) dX0_goStep_62
    · skip
      refine v_goto (pc := 15) C 25 (by decide) dX0_goStep_15 ?_
      refine v_aload_n (pc := 25) C 0 rfl rfl dX0_goStep_25 ?_
      refine v_aload_n (pc := 26) C 0 rfl rfl dX0_goStep_26 ?_
      refine gt_3_2 (pc := 27) C ⟨by (first | assumption | omega | (simp [bl, up] <;> omega)), by (first | assumption | omega | (simp [bl, up] <;> omega))⟩ u_3_0 dX0_goStep_27 (g 3 k 0 2) (rfl) ?_
      refine v_if_ne (pc := 30) C 37 ⟨by (first | assumption | omega | (simp [bl, up] <;> omega)), by (first | assumption | omega | (simp [bl, up] <;> omega))⟩ (by decide) dX0_goStep_30 (fun h30 => ?_) (fun h30 => ?_)
      · skip
        refine v_iconst (pc := 37) C dX0_goStep_37 ?_
        refine pt_3_2 (pc := 38) C ⟨by (first | assumption | omega | (simp [bl, up] <;> omega)), by (first | assumption | omega | (simp [bl, up] <;> omega))⟩ u_3_0 (by (first | assumption | omega | (simp [bl, up] <;> omega))) dX0_goStep_38 ?_
        refine v_aload_n (pc := 41) C 0 rfl rfl dX0_goStep_41 ?_
        refine v_dup (pc := 42) C rfl dX0_goStep_42 ?_
        refine gt_3_0 (pc := 43) C ⟨by (first | assumption | omega | (simp [bl, up] <;> omega)), by (first | assumption | omega | (simp [bl, up] <;> omega))⟩ u_5_21 dX0_goStep_43 (g 3 k 0 0) (by simp [up]) ?_
        refine v_aload_n (pc := 46) C 0 rfl rfl dX0_goStep_46 ?_
        refine gt_3_2 (pc := 47) C ⟨by (first | assumption | omega | (simp [bl, up] <;> omega)), by (first | assumption | omega | (simp [bl, up] <;> omega))⟩ u_3_0 dX0_goStep_47 0 (by simp [up]) ?_
        refine v_if_eq (pc := 50) C 57 ⟨by (first | assumption | omega | (simp [bl, up] <;> omega)), by (first | assumption | omega | (simp [bl, up] <;> omega))⟩ (by decide) dX0_goStep_50 (fun h50 => ?_) (fun h50 => ?_)
        · skip
          refine v_iconst (pc := 57) C dX0_goStep_57 ?_
          refine v_iadd (pc := 58) C dX0_goStep_58 ?_
          refine pt_3_0 (pc := 59) C ⟨by (first | assumption | omega | (simp [bl, up] <;> omega)), by (first | assumption | omega | (simp [bl, up] <;> omega))⟩ u_5_21 dX0_goStep_59 ?_
          exact v_vret (pc := 62) C hr hlk (by funext f' k' j' i'; simp only [bl, up, stepP, stepR]; grind) dX0_goStep_62
        · skip
          exfalso; omega
      · skip
        exfalso; omega
set_option maxHeartbeats 4000000 in
set_option maxRecDepth 100000 in
theorem ct_X0_goTurn (l : Launch) (L : Lay) (g : St) (k a : Int) (hk0 : 0 ≤ k) (hk1 : k < 10) (hp : 0 ≤ g 3 k 0 0 ∧ g 3 k 0 0 ≤ a) (ha : 1 ≤ a ∧ a ≤ 1000) (hr0 : g 3 k 0 2 = 0 ∨ g 3 k 0 2 = 1) (hs : 0 ≤ g 3 k 0 1 ∧ g 3 k 0 1 ≤ 1000) : Met l yX0_goTurn (.code yX0_goTurn cX0_goTurn 3 none :: wsL_law) { frames := 1, cells := 0, slots := 0, locals := 21 } (va_Pc [.ref (adr L 3 k 0), .int (iI a)] (HS L g)) (va_Qv (fun (u9 : St) => u9 = (bl g k (bwalk a (g 3 k 0 1).toNat (g 3 k 0 0, g 3 k 0 2)).1 (bwalk a (g 3 k 0 1).toNat (g 3 k 0 0, g 3 k 0 2)).2)) (fun u t => HS L u t) (Af L)) 0 0 (Af L) := by
  refine ct_mk (by decide +kernel) (Nat.le_of_ble_eq_true rfl) ?_
  intro pp ee ss mm bel mth cx C hr hlk
  show V pp l ee { frames := 1, cells := 0, slots := 0, locals := 21 } ss mm ([.ref (adr L 3 k 0), .int (iI a)]).toArray bel mth cx 3 L (HH L g) 0 0 _ 0 [(0, .ref (adr L 3 k 0)), (1, .int (iI a))] []
  refine v_iconst (pc := 0) C dX0_goTurn_0 ?_
  refine v_istore_n (pc := 1) C [(2, .int (iI 0)), (0, .ref (adr L 3 k 0)), (1, .int (iI a))] rfl (by decide) rfl dX0_goTurn_1 ?_
  have lb2 : ∀ (n9 : Nat) (i : Int), (0 ≤ i ∧ i ≤ g 3 k 0 1) → (g 3 k 0 1 - i).toNat < n9 → V pp l ee { frames := 1, cells := 0, slots := 0, locals := 21 } ss mm ([.ref (adr L 3 k 0), .int (iI a)]).toArray bel mth cx 3 L (HH L (bl g k (bwalk a i.toNat (g 3 k 0 0, g 3 k 0 2)).1 (bwalk a i.toNat (g 3 k 0 0, g 3 k 0 2)).2)) 0 0 (MQ bel (va_Qv (fun (u9 : St) => u9 = (bl g k (bwalk a (g 3 k 0 1).toNat (g 3 k 0 0, g 3 k 0 2)).1 (bwalk a (g 3 k 0 1).toNat (g 3 k 0 0, g 3 k 0 2)).2)) (fun u t => HS L u t) (Af L)) ([.ref (adr L 3 k 0), .int (iI a)]).toArray ss 0 0 (Af L)) 2 [(0, .ref (adr L 3 k 0)), (1, .int (iI a)), (2, .int (iI i))] [] := by
    intro n9
    induction n9 with
    | zero => intro i hi hm9; exact absurd hm9 (Nat.not_lt_zero _)
    | succ n9 ih9 =>
      intro i hi hm9
      obtain ⟨hq1, hq2⟩ := bwalk_in (last := a) ha.1 (q := (g 3 k 0 0, g 3 k 0 2)) hp hr0 i.toNat
      have ih2 := ih9
      refine v_iload_n (pc := 2) C 2 rfl rfl dX0_goTurn_2 ?_
      refine v_aload_n (pc := 3) C 0 rfl rfl dX0_goTurn_3 ?_
      refine gt_3_1 (pc := 4) C ⟨by (first | assumption | omega | (simp [bl, up] <;> omega)), by (first | assumption | omega | (simp [bl, up] <;> omega))⟩ u_2_23 dX0_goTurn_4 (g 3 k 0 1) (by simp [bl]) ?_
      refine v_icmp_ge (pc := 7) C 21 ⟨by (first | assumption | omega | (simp [bl, up] <;> omega)), by (first | assumption | omega | (simp [bl, up] <;> omega))⟩ ⟨by (first | assumption | omega | (simp [bl, up] <;> omega)), by (first | assumption | omega | (simp [bl, up] <;> omega))⟩ (by decide) dX0_goTurn_7 (fun h7 => ?_) (fun h7 => ?_)
      · skip
        exact v_vret (pc := 21) C hr hlk (by rw [show i = g 3 k 0 1 by omega]) dX0_goTurn_21
      · skip
        refine v_aload_n (pc := 10) C 0 rfl rfl dX0_goTurn_10 ?_
        refine v_iload_n (pc := 11) C 1 rfl rfl dX0_goTurn_11 ?_
        refine v_callvV (pc := 12) C cw_RX0_22 (rcv_3 ⟨by (first | assumption | omega | (simp [bl, up] <;> omega)), by (first | assumption | omega | (simp [bl, up] <;> omega))⟩) (ct_X0_goStep l L (bl g k (bwalk a i.toNat (g 3 k 0 0, g 3 k 0 2)).1 (bwalk a i.toNat (g 3 k 0 0, g 3 k 0 2)).2) k a (by first | assumption | omega | (simp [bl, up] <;> omega)) (by first | assumption | omega | (simp [bl, up] <;> omega)) (by first | assumption | omega | (simp [bl, up] <;> omega)) (by first | assumption | omega | (simp [bl, up] <;> omega)) (by first | assumption | omega | (simp [bl, up] <;> omega))) ⟨Nat.le_of_ble_eq_true rfl, Nat.le_of_ble_eq_true rfl⟩ rfl (Nat.le_of_ble_eq_true rfl) ⟨Nat.le_of_ble_eq_true rfl, Nat.le_of_ble_eq_true rfl⟩ rfl dX0_goTurn_12 (fun u9 hP_1 => ?_)
        rw [hP_1]
        clear hP_1 u9
        refine v_iinc (pc := 15) C 2 [(2, .int (iI (i + 1))), (0, .ref (adr L 3 k 0)), (1, .int (iI a))] rfl (by decide) rfl dX0_goTurn_15 ?_
        refine v_goto (pc := 18) C 2 (by decide) dX0_goTurn_18 ?_
        refine v_lsub [1, 2, 0] rfl ?_
        refine v_st (g2 := bl g k (bwalk a (i + 1).toNat (g 3 k 0 0, g 3 k 0 2)).1 (bwalk a (i + 1).toNat (g 3 k 0 0, g 3 k 0 2)).2) C (by rw [show (i + 1).toNat = i.toNat + 1 by omega]; simp only [bwalk, bstep, bl_bl]; simp [bl]) ?_
        exact ih2 (i + 1) (by first | assumption | omega | (simp [bl, up] <;> omega)) (by omega)
  refine v_lsub [1, 2, 0] rfl ?_
  refine v_st (g2 := bl g k (bwalk a (0 : Int).toNat (g 3 k 0 0, g 3 k 0 2)).1 (bwalk a (0 : Int).toNat (g 3 k 0 0, g 3 k 0 2)).2) C (by exact (bl_self g k).symm) ?_
  exact lb2 _ 0 (by first | assumption | omega | (simp [bl, up] <;> omega)) (Nat.lt_succ_self _)
set_option maxHeartbeats 4000000 in
set_option maxRecDepth 100000 in
theorem ct_X0_unfoldedPlaceIn (l : Launch) (L : Lay) (g : St) (k t a : Int) (hk0 : 0 ≤ k) (hk1 : k < 10) (hp : 0 ≤ g 3 k 0 0 ∧ g 3 k 0 0 ≤ a) (ha : 1 ≤ a ∧ a ≤ 1000) (hr0 : g 3 k 0 2 = 0 ∨ g 3 k 0 2 = 1) (hs : 0 ≤ g 3 k 0 1 ∧ g 3 k 0 1 ≤ 9) (ht : 0 ≤ t ∧ t ≤ 1000) : Met l yX0_unfoldedPlaceIn (.code yX0_unfoldedPlaceIn cX0_unfoldedPlaceIn 6 (some .int) :: wsL_law) { frames := 1, cells := 0, slots := 0, locals := 21 } (va_Pc [.ref (adr L 3 k 0), .int (iI t), .int (iI a)] (HS L g)) (va_Qi (fun (r9 : Int32) (u9 : St) => r9 = iI (unf (g 3 k 0 0) (g 3 k 0 1) (g 3 k 0 2) t a) ∧ u9 = g) (fun u t => HS L u t) (Af L)) 0 0 (Af L) := by
  refine ct_mk (by decide +kernel) (Nat.le_of_ble_eq_true rfl) ?_
  intro pp ee ss mm bel mth cx C hr hlk
  show V pp l ee { frames := 1, cells := 0, slots := 0, locals := 21 } ss mm ([.ref (adr L 3 k 0), .int (iI t), .int (iI a)]).toArray bel mth cx 6 L (HH L g) 0 0 _ 0 [(0, .ref (adr L 3 k 0)), (1, .int (iI t)), (2, .int (iI a))] []
  have hst : 0 ≤ g 3 k 0 1 * t ∧ g 3 k 0 1 * t ≤ 9 * 1000 := ⟨Int.mul_nonneg hs.1 ht.1, Int.mul_le_mul hs.2 ht.2 ht.1 (by omega)⟩
  refine v_iconst (pc := 0) C dX0_unfoldedPlaceIn_0 ?_
  refine v_iload_n (pc := 1) C 2 rfl rfl dX0_unfoldedPlaceIn_1 ?_
  refine v_iconst (pc := 2) C dX0_unfoldedPlaceIn_2 ?_
  refine v_max (pc := 3) C ⟨by (first | assumption | omega | (simp [bl, up] <;> omega)), by (first | assumption | omega | (simp [bl, up] <;> omega))⟩ ⟨by (first | assumption | omega | (simp [bl, up] <;> omega)), by (first | assumption | omega | (simp [bl, up] <;> omega))⟩ (z := a) (by split <;> omega) u_5_20 u_5_5 u_5_6 u_5_7 (by decide) (Nat.le_of_ble_eq_true rfl) (by decide) (by decide) dX0_unfoldedPlaceIn_3 ?_
  refine v_imul (pc := 6) C dX0_unfoldedPlaceIn_6 ?_
  refine v_istore_n (pc := 7) C [(3, .int (iI (2 * a))), (0, .ref (adr L 3 k 0)), (1, .int (iI t)), (2, .int (iI a))] rfl (by decide) rfl dX0_unfoldedPlaceIn_7 ?_
  refine v_aload_n (pc := 8) C 1 rfl rfl dX0_unfoldedPlaceIn_8 ?_
  refine gt_3_2 (pc := 9) C ⟨by (first | assumption | omega | (simp [bl, up] <;> omega)), by (first | assumption | omega | (simp [bl, up] <;> omega))⟩ u_3_0 dX0_unfoldedPlaceIn_9 (g 3 k 0 2) (rfl) ?_
  refine v_if_eq (pc := 12) C 22 ⟨by (first | assumption | omega | (simp [bl, up] <;> omega)), by (first | assumption | omega | (simp [bl, up] <;> omega))⟩ (by decide) dX0_unfoldedPlaceIn_12 (fun h12 => ?_) (fun h12 => ?_)
  · skip
    refine v_iload_n (pc := 22) C 0 rfl rfl dX0_unfoldedPlaceIn_22 ?_
    refine v_aload_n (pc := 23) C 1 rfl rfl dX0_unfoldedPlaceIn_23 ?_
    refine gt_3_0 (pc := 24) C ⟨by (first | assumption | omega | (simp [bl, up] <;> omega)), by (first | assumption | omega | (simp [bl, up] <;> omega))⟩ u_5_21 dX0_unfoldedPlaceIn_24 (g 3 k 0 0) (rfl) ?_
    refine v_isub (pc := 27) C dX0_unfoldedPlaceIn_27 ?_
    refine v_istore (pc := 28) C [(4, .int (iI ((2 * a) - (g 3 k 0 0)))), (3, .int (iI (2 * a))), (0, .ref (adr L 3 k 0)), (1, .int (iI t)), (2, .int (iI a))] (by decide) rfl dX0_unfoldedPlaceIn_28 ?_
    refine v_iload (pc := 30) C 0 rfl dX0_unfoldedPlaceIn_30 ?_
    refine v_aload_n (pc := 32) C 2 rfl rfl dX0_unfoldedPlaceIn_32 ?_
    refine gt_3_1 (pc := 33) C ⟨by (first | assumption | omega | (simp [bl, up] <;> omega)), by (first | assumption | omega | (simp [bl, up] <;> omega))⟩ u_2_23 dX0_unfoldedPlaceIn_33 (g 3 k 0 1) (rfl) ?_
    refine v_iload_n (pc := 36) C 3 rfl rfl dX0_unfoldedPlaceIn_36 ?_
    refine v_imul (pc := 37) C dX0_unfoldedPlaceIn_37 ?_
    refine v_iadd (pc := 38) C dX0_unfoldedPlaceIn_38 ?_
    refine v_iload_n (pc := 39) C 1 rfl rfl dX0_unfoldedPlaceIn_39 ?_
    refine v_irem (pc := 40) C (⟨⟨by (first | assumption | omega | (simp [bl, up] <;> omega)), by (first | assumption | omega | (simp [bl, up] <;> omega))⟩, ⟨by (first | assumption | omega | (simp [bl, up] <;> omega)), by (first | assumption | omega | (simp [bl, up] <;> omega))⟩, by (first | assumption | omega | (simp [bl, up] <;> omega)), by (first | assumption | omega | (simp [bl, up] <;> omega))⟩) dX0_unfoldedPlaceIn_40 ?_
    refine v_istore (pc := 41) C [(5, .int (iI ((((2 * a) - (g 3 k 0 0)) + ((g 3 k 0 1) * t)) % (2 * a)))), (4, .int (iI ((2 * a) - (g 3 k 0 0)))), (3, .int (iI (2 * a))), (0, .ref (adr L 3 k 0)), (1, .int (iI t)), (2, .int (iI a))] (by decide) rfl dX0_unfoldedPlaceIn_41 ?_
    have hm := emod_in (x := (((2 * a) - (g 3 k 0 0)) + ((g 3 k 0 1) * t))) (b := 2 * a) (by omega)
    refine v_iload (pc := 43) C 0 rfl dX0_unfoldedPlaceIn_43 ?_
    refine v_iload_n (pc := 45) C 5 rfl rfl dX0_unfoldedPlaceIn_45 ?_
    refine v_icmp_gt (pc := 46) C 54 ⟨by (first | assumption | omega | (simp [bl, up] <;> omega)), by (first | assumption | omega | (simp [bl, up] <;> omega))⟩ ⟨by (first | assumption | omega | (simp [bl, up] <;> omega)), by (first | assumption | omega | (simp [bl, up] <;> omega))⟩ (by decide) dX0_unfoldedPlaceIn_46 (fun h46 => ?_) (fun h46 => ?_)
    · skip
      refine v_iload_n (pc := 54) C 2 rfl rfl dX0_unfoldedPlaceIn_54 ?_
      refine v_iload (pc := 55) C 0 rfl dX0_unfoldedPlaceIn_55 ?_
      refine v_isub (pc := 57) C dX0_unfoldedPlaceIn_57 ?_
      exact v_iret (pc := 58) C hr hlk (⟨congrArg iI (by unfold unf; grind), rfl⟩) dX0_unfoldedPlaceIn_58
    · skip
      refine v_iload (pc := 49) C 0 rfl dX0_unfoldedPlaceIn_49 ?_
      refine v_goto (pc := 51) C 58 (by decide) dX0_unfoldedPlaceIn_51 ?_
      exact v_iret (pc := 58) C hr hlk (⟨congrArg iI (by unfold unf; grind), rfl⟩) dX0_unfoldedPlaceIn_58
  · skip
    refine v_aload_n (pc := 15) C 1 rfl rfl dX0_unfoldedPlaceIn_15 ?_
    refine gt_3_0 (pc := 16) C ⟨by (first | assumption | omega | (simp [bl, up] <;> omega)), by (first | assumption | omega | (simp [bl, up] <;> omega))⟩ u_5_21 dX0_unfoldedPlaceIn_16 (g 3 k 0 0) (rfl) ?_
    refine v_goto (pc := 19) C 28 (by decide) dX0_unfoldedPlaceIn_19 ?_
    refine v_istore (pc := 28) C [(4, .int (iI (g 3 k 0 0))), (3, .int (iI (2 * a))), (0, .ref (adr L 3 k 0)), (1, .int (iI t)), (2, .int (iI a))] (by decide) rfl dX0_unfoldedPlaceIn_28 ?_
    refine v_iload (pc := 30) C 0 rfl dX0_unfoldedPlaceIn_30 ?_
    refine v_aload_n (pc := 32) C 2 rfl rfl dX0_unfoldedPlaceIn_32 ?_
    refine gt_3_1 (pc := 33) C ⟨by (first | assumption | omega | (simp [bl, up] <;> omega)), by (first | assumption | omega | (simp [bl, up] <;> omega))⟩ u_2_23 dX0_unfoldedPlaceIn_33 (g 3 k 0 1) (rfl) ?_
    refine v_iload_n (pc := 36) C 3 rfl rfl dX0_unfoldedPlaceIn_36 ?_
    refine v_imul (pc := 37) C dX0_unfoldedPlaceIn_37 ?_
    refine v_iadd (pc := 38) C dX0_unfoldedPlaceIn_38 ?_
    refine v_iload_n (pc := 39) C 1 rfl rfl dX0_unfoldedPlaceIn_39 ?_
    refine v_irem (pc := 40) C (⟨⟨by (first | assumption | omega | (simp [bl, up] <;> omega)), by (first | assumption | omega | (simp [bl, up] <;> omega))⟩, ⟨by (first | assumption | omega | (simp [bl, up] <;> omega)), by (first | assumption | omega | (simp [bl, up] <;> omega))⟩, by (first | assumption | omega | (simp [bl, up] <;> omega)), by (first | assumption | omega | (simp [bl, up] <;> omega))⟩) dX0_unfoldedPlaceIn_40 ?_
    refine v_istore (pc := 41) C [(5, .int (iI (((g 3 k 0 0) + ((g 3 k 0 1) * t)) % (2 * a)))), (4, .int (iI (g 3 k 0 0))), (3, .int (iI (2 * a))), (0, .ref (adr L 3 k 0)), (1, .int (iI t)), (2, .int (iI a))] (by decide) rfl dX0_unfoldedPlaceIn_41 ?_
    have hm := emod_in (x := ((g 3 k 0 0) + ((g 3 k 0 1) * t))) (b := 2 * a) (by omega)
    refine v_iload (pc := 43) C 0 rfl dX0_unfoldedPlaceIn_43 ?_
    refine v_iload_n (pc := 45) C 5 rfl rfl dX0_unfoldedPlaceIn_45 ?_
    refine v_icmp_gt (pc := 46) C 54 ⟨by (first | assumption | omega | (simp [bl, up] <;> omega)), by (first | assumption | omega | (simp [bl, up] <;> omega))⟩ ⟨by (first | assumption | omega | (simp [bl, up] <;> omega)), by (first | assumption | omega | (simp [bl, up] <;> omega))⟩ (by decide) dX0_unfoldedPlaceIn_46 (fun h46 => ?_) (fun h46 => ?_)
    · skip
      refine v_iload_n (pc := 54) C 2 rfl rfl dX0_unfoldedPlaceIn_54 ?_
      refine v_iload (pc := 55) C 0 rfl dX0_unfoldedPlaceIn_55 ?_
      refine v_isub (pc := 57) C dX0_unfoldedPlaceIn_57 ?_
      exact v_iret (pc := 58) C hr hlk (⟨congrArg iI (by unfold unf; grind), rfl⟩) dX0_unfoldedPlaceIn_58
    · skip
      refine v_iload (pc := 49) C 0 rfl dX0_unfoldedPlaceIn_49 ?_
      refine v_goto (pc := 51) C 58 (by decide) dX0_unfoldedPlaceIn_51 ?_
      exact v_iret (pc := 58) C hr hlk (⟨congrArg iI (by unfold unf; grind), rfl⟩) dX0_unfoldedPlaceIn_58
set_option maxHeartbeats 4000000 in
set_option maxRecDepth 100000 in
theorem ct_X0_followWord (l : Launch) (L : Lay) (g : St) (k w : Int) (hk0 : 0 ≤ k) (hk1 : k < 10) (hw : 0 ≤ w ∧ w ≤ 9) (hr0 : g 3 k 0 2 = 0 ∨ g 3 k 0 2 = 1) (hs : 1 ≤ g 3 k 0 1 ∧ g 3 k 0 1 ≤ 9) : Met l yX0_followWord (.code yX0_followWord cX0_followWord 2 none :: wsL_law) { frames := 1, cells := 0, slots := 0, locals := 21 } (va_Pc [.ref (adr L 3 k 0), .int (iI w)] (HS L g)) (va_Qv (fun (u9 : St) => u9 = (up (up g 3 k 0 1 (fwS (g 3 k 0 1) w)) 3 k 0 2 (fwR (g 3 k 0 2) w))) (fun u t => HS L u t) (Af L)) 0 0 (Af L) := by
  refine ct_mk (by decide +kernel) (Nat.le_of_ble_eq_true rfl) ?_
  intro pp ee ss mm bel mth cx C hr hlk
  show V pp l ee { frames := 1, cells := 0, slots := 0, locals := 21 } ss mm ([.ref (adr L 3 k 0), .int (iI w)]).toArray bel mth cx 2 L (HH L g) 0 0 _ 0 [(0, .ref (adr L 3 k 0)), (1, .int (iI w))] []
  refine v_iload_n (pc := 0) C 1 rfl rfl dX0_followWord_0 ?_
  refine v_iconst (pc := 1) C dX0_followWord_1 ?_
  refine v_irem (pc := 2) C (⟨⟨by (first | assumption | omega | (simp [bl, up] <;> omega)), by (first | assumption | omega | (simp [bl, up] <;> omega))⟩, ⟨by (first | assumption | omega | (simp [bl, up] <;> omega)), by (first | assumption | omega | (simp [bl, up] <;> omega))⟩, by (first | assumption | omega | (simp [bl, up] <;> omega)), by (first | assumption | omega | (simp [bl, up] <;> omega))⟩) dX0_followWord_2 ?_
  by_cases h3_0 : w % 3 = 0
  · skip
    refine v_lookup (pc := 3) (o := 25) C 28 ⟨by (first | assumption | omega | (simp [bl, up] <;> omega)), by (first | assumption | omega | (simp [bl, up] <;> omega))⟩ (by decide +kernel) (by rw [h3_0]; decide +kernel) (by decide) dX0_followWord_3 ?_
    refine v_aload_n (pc := 28) C 0 rfl rfl dX0_followWord_28 ?_
    refine v_aload_n (pc := 29) C 0 rfl rfl dX0_followWord_29 ?_
    refine gt_3_2 (pc := 30) C ⟨by (first | assumption | omega | (simp [bl, up] <;> omega)), by (first | assumption | omega | (simp [bl, up] <;> omega))⟩ u_3_0 dX0_followWord_30 (g 3 k 0 2) (rfl) ?_
    refine v_if_ne (pc := 33) C 40 ⟨by (first | assumption | omega | (simp [bl, up] <;> omega)), by (first | assumption | omega | (simp [bl, up] <;> omega))⟩ (by decide) dX0_followWord_33 (fun h33 => ?_) (fun h33 => ?_)
    · skip
      refine v_iconst (pc := 40) C dX0_followWord_40 ?_
      refine pt_3_2 (pc := 41) C ⟨by (first | assumption | omega | (simp [bl, up] <;> omega)), by (first | assumption | omega | (simp [bl, up] <;> omega))⟩ u_3_0 (by (first | assumption | omega | (simp [bl, up] <;> omega))) dX0_followWord_41 ?_
      refine v_goto (pc := 44) C 79 (by decide) dX0_followWord_44 ?_
      exact v_vret (pc := 79) C hr hlk (by funext f' k' j' i'; simp only [up, fwS, fwR]; grind) dX0_followWord_79
    · skip
      refine v_iconst (pc := 36) C dX0_followWord_36 ?_
      refine v_goto (pc := 37) C 41 (by decide) dX0_followWord_37 ?_
      refine pt_3_2 (pc := 41) C ⟨by (first | assumption | omega | (simp [bl, up] <;> omega)), by (first | assumption | omega | (simp [bl, up] <;> omega))⟩ u_3_0 (by (first | assumption | omega | (simp [bl, up] <;> omega))) dX0_followWord_41 ?_
      refine v_goto (pc := 44) C 79 (by decide) dX0_followWord_44 ?_
      exact v_vret (pc := 79) C hr hlk (by funext f' k' j' i'; simp only [up, fwS, fwR]; grind) dX0_followWord_79
  by_cases h3_1 : w % 3 = 1
  · skip
    refine v_lookup (pc := 3) (o := 44) C 47 ⟨by (first | assumption | omega | (simp [bl, up] <;> omega)), by (first | assumption | omega | (simp [bl, up] <;> omega))⟩ (by decide +kernel) (by rw [h3_1]; decide +kernel) (by decide) dX0_followWord_3 ?_
    refine v_aload_n (pc := 47) C 0 rfl rfl dX0_followWord_47 ?_
    refine v_aload_n (pc := 48) C 0 rfl rfl dX0_followWord_48 ?_
    refine gt_3_1 (pc := 49) C ⟨by (first | assumption | omega | (simp [bl, up] <;> omega)), by (first | assumption | omega | (simp [bl, up] <;> omega))⟩ u_2_23 dX0_followWord_49 (g 3 k 0 1) (rfl) ?_
    refine v_iconst (pc := 52) C dX0_followWord_52 ?_
    refine v_iadd (pc := 53) C dX0_followWord_53 ?_
    refine v_bipush (pc := 54) C rfl dX0_followWord_54 ?_
    refine v_min (pc := 56) C ⟨by (first | assumption | omega | (simp [bl, up] <;> omega)), by (first | assumption | omega | (simp [bl, up] <;> omega))⟩ ⟨by (first | assumption | omega | (simp [bl, up] <;> omega)), by (first | assumption | omega | (simp [bl, up] <;> omega))⟩ (z := min ((g 3 k 0 1) + 1) 9) (by simp only [Int.max_def, Int.min_def]; (repeat' split) <;> omega) u_15_16 u_12_3 u_5_6 u_12_4 (by decide) (Nat.le_of_ble_eq_true rfl) (by decide) (by decide) dX0_followWord_56 ?_
    refine pt_3_1 (pc := 59) C ⟨by (first | assumption | omega | (simp [bl, up] <;> omega)), by (first | assumption | omega | (simp [bl, up] <;> omega))⟩ u_2_23 dX0_followWord_59 ?_
    refine v_goto (pc := 62) C 79 (by decide) dX0_followWord_62 ?_
    exact v_vret (pc := 79) C hr hlk (by funext f' k' j' i'; simp only [up, fwS, fwR]; grind) dX0_followWord_79
  refine v_lookup (pc := 3) (o := 62) C 65 ⟨by (first | assumption | omega | (simp [bl, up] <;> omega)), by (first | assumption | omega | (simp [bl, up] <;> omega))⟩ (by decide +kernel) (by simp [Op.lookupswitch.offset, h3_0, h3_1, Ne.symm h3_0, Ne.symm h3_1]) (by decide) dX0_followWord_3 ?_
  refine v_aload_n (pc := 65) C 0 rfl rfl dX0_followWord_65 ?_
  refine v_aload_n (pc := 66) C 0 rfl rfl dX0_followWord_66 ?_
  refine gt_3_1 (pc := 67) C ⟨by (first | assumption | omega | (simp [bl, up] <;> omega)), by (first | assumption | omega | (simp [bl, up] <;> omega))⟩ u_2_23 dX0_followWord_67 (g 3 k 0 1) (rfl) ?_
  refine v_iconst (pc := 70) C dX0_followWord_70 ?_
  refine v_isub (pc := 71) C dX0_followWord_71 ?_
  refine v_iconst (pc := 72) C dX0_followWord_72 ?_
  refine v_max (pc := 73) C ⟨by (first | assumption | omega | (simp [bl, up] <;> omega)), by (first | assumption | omega | (simp [bl, up] <;> omega))⟩ ⟨by (first | assumption | omega | (simp [bl, up] <;> omega)), by (first | assumption | omega | (simp [bl, up] <;> omega))⟩ (z := max ((g 3 k 0 1) - 1) 1) (by simp only [Int.max_def, Int.min_def]; (repeat' split) <;> omega) u_5_20 u_5_5 u_5_6 u_5_7 (by decide) (Nat.le_of_ble_eq_true rfl) (by decide) (by decide) dX0_followWord_73 ?_
  refine pt_3_1 (pc := 76) C ⟨by (first | assumption | omega | (simp [bl, up] <;> omega)), by (first | assumption | omega | (simp [bl, up] <;> omega))⟩ u_2_23 dX0_followWord_76 ?_
  exact v_vret (pc := 79) C hr hlk (by funext f' k' j' i'; simp only [up, fwS, fwR]; grind) dX0_followWord_79
set_option maxHeartbeats 4000000 in
set_option maxRecDepth 100000 in
theorem ct_X2_comesTo (l : Launch) (L : Lay) (g : St) (k j a b : Int) (hk : 0 ≤ k ∧ k < 9) (hj : 0 ≤ j ∧ j < 24) (h1 : rg (g 7 k j 1) ∧ rg (g 7 k j 3)) (h2 : rg a ∧ rg b) : Met l yX2_comesTo (.code yX2_comesTo cX2_comesTo 3 (some .boolean) :: wsL_law) { frames := 0, cells := 0, slots := 0, locals := 0 } (va_Pc [.ref (adr L 7 k j), .int (iI a), .int (iI b)] (HS L g)) (va_Qi (fun (r9 : Int32) (u9 : St) => r9 = iI (if g 7 k j 1 = a ∧ g 7 k j 3 = b then 1 else 0) ∧ u9 = g) (fun u t => HS L u t) (Af L)) 0 0 (Af L) := by
  refine ct_mk (by decide +kernel) (Nat.le_of_ble_eq_true rfl) ?_
  intro pp ee ss mm bel mth cx C hr hlk
  show V pp l ee { frames := 0, cells := 0, slots := 0, locals := 0 } ss mm ([.ref (adr L 7 k j), .int (iI a), .int (iI b)]).toArray bel mth cx 3 L (HH L g) 0 0 _ 0 [(0, .ref (adr L 7 k j)), (1, .int (iI a)), (2, .int (iI b))] []
  unfold rg at h1 h2
  refine v_aload_n (pc := 0) C 0 rfl rfl dX2_comesTo_0 ?_
  refine gt_7_1 (pc := 1) C ⟨⟨by (first | assumption | omega | (simp [bl, up] <;> omega)), by (first | assumption | omega | (simp [bl, up] <;> omega))⟩, ⟨by (first | assumption | omega | (simp [bl, up] <;> omega)), by (first | assumption | omega | (simp [bl, up] <;> omega))⟩⟩ u_6_8 dX2_comesTo_1 (g 7 k j 1) (rfl) ?_
  refine v_iload_n (pc := 4) C 1 rfl rfl dX2_comesTo_4 ?_
  refine v_icmp_ne (pc := 5) C 20 ⟨by (first | assumption | omega | (simp [bl, up] <;> omega)), by (first | assumption | omega | (simp [bl, up] <;> omega))⟩ ⟨by (first | assumption | omega | (simp [bl, up] <;> omega)), by (first | assumption | omega | (simp [bl, up] <;> omega))⟩ (by decide) dX2_comesTo_5 (fun h5 => ?_) (fun h5 => ?_)
  · skip
    refine v_iconst (pc := 20) C dX2_comesTo_20 ?_
    exact v_zret (pc := 21) C hr hlk (by first | assumption | omega | (simp [bl, up] <;> omega)) (⟨congrArg iI (by grind), rfl⟩) dX2_comesTo_21
  · skip
    refine v_aload_n (pc := 8) C 0 rfl rfl dX2_comesTo_8 ?_
    refine gt_7_3 (pc := 9) C ⟨⟨by (first | assumption | omega | (simp [bl, up] <;> omega)), by (first | assumption | omega | (simp [bl, up] <;> omega))⟩, ⟨by (first | assumption | omega | (simp [bl, up] <;> omega)), by (first | assumption | omega | (simp [bl, up] <;> omega))⟩⟩ u_6_9 dX2_comesTo_9 (g 7 k j 3) (rfl) ?_
    refine v_iload_n (pc := 12) C 2 rfl rfl dX2_comesTo_12 ?_
    refine v_icmp_ne (pc := 13) C 20 ⟨by (first | assumption | omega | (simp [bl, up] <;> omega)), by (first | assumption | omega | (simp [bl, up] <;> omega))⟩ ⟨by (first | assumption | omega | (simp [bl, up] <;> omega)), by (first | assumption | omega | (simp [bl, up] <;> omega))⟩ (by decide) dX2_comesTo_13 (fun h13 => ?_) (fun h13 => ?_)
    · skip
      refine v_iconst (pc := 20) C dX2_comesTo_20 ?_
      exact v_zret (pc := 21) C hr hlk (by first | assumption | omega | (simp [bl, up] <;> omega)) (⟨congrArg iI (by grind), rfl⟩) dX2_comesTo_21
    · skip
      refine v_iconst (pc := 16) C dX2_comesTo_16 ?_
      refine v_goto (pc := 17) C 21 (by decide) dX2_comesTo_17 ?_
      exact v_zret (pc := 21) C hr hlk (by first | assumption | omega | (simp [bl, up] <;> omega)) (⟨congrArg iI (by grind), rfl⟩) dX2_comesTo_21
set_option maxHeartbeats 4000000 in
set_option maxRecDepth 100000 in
theorem ct_X2_copyFrom (l : Launch) (L : Lay) (g : St) (k j o q : Int) (hk : 0 ≤ k ∧ k < 9) (hj : 0 ≤ j ∧ j < 24) (ho : 0 ≤ o ∧ o < 9) (hq : 0 ≤ q ∧ q < 24) : Met l yX2_copyFrom (.code yX2_copyFrom cX2_copyFrom 2 none :: wsL_law) { frames := 0, cells := 0, slots := 0, locals := 0 } (va_Pc [.ref (adr L 7 k j), .ref (adr L 7 o q)] (HS L g)) (va_Qv (fun (u9 : St) => u9 = (up (up (up (up (up g 7 k j 0 (g 7 o q 0)) 7 k j 1 (g 7 o q 1)) 7 k j 2 (g 7 o q 2)) 7 k j 3 (g 7 o q 3)) 7 k j 4 (g 7 o q 4))) (fun u t => HS L u t) (Af L)) 0 0 (Af L) := by
  refine ct_mk (by decide +kernel) (Nat.le_of_ble_eq_true rfl) ?_
  intro pp ee ss mm bel mth cx C hr hlk
  show V pp l ee { frames := 0, cells := 0, slots := 0, locals := 0 } ss mm ([.ref (adr L 7 k j), .ref (adr L 7 o q)]).toArray bel mth cx 2 L (HH L g) 0 0 _ 0 [(0, .ref (adr L 7 k j)), (1, .ref (adr L 7 o q))] []
  refine v_aload_n (pc := 0) C 0 rfl rfl dX2_copyFrom_0 ?_
  refine v_aload_n (pc := 1) C 1 rfl rfl dX2_copyFrom_1 ?_
  refine gt_7_0 (pc := 2) C ⟨⟨by (first | assumption | omega | (simp [bl, up] <;> omega)), by (first | assumption | omega | (simp [bl, up] <;> omega))⟩, ⟨by (first | assumption | omega | (simp [bl, up] <;> omega)), by (first | assumption | omega | (simp [bl, up] <;> omega))⟩⟩ u_11_19 dX2_copyFrom_2 (g 7 o q 0) (rfl) ?_
  refine pt_7_0 (pc := 5) C ⟨⟨by (first | assumption | omega | (simp [bl, up] <;> omega)), by (first | assumption | omega | (simp [bl, up] <;> omega))⟩, ⟨by (first | assumption | omega | (simp [bl, up] <;> omega)), by (first | assumption | omega | (simp [bl, up] <;> omega))⟩⟩ u_11_19 dX2_copyFrom_5 ?_
  refine v_aload_n (pc := 8) C 0 rfl rfl dX2_copyFrom_8 ?_
  refine v_aload_n (pc := 9) C 1 rfl rfl dX2_copyFrom_9 ?_
  refine gt_7_1 (pc := 10) C ⟨⟨by (first | assumption | omega | (simp [bl, up] <;> omega)), by (first | assumption | omega | (simp [bl, up] <;> omega))⟩, ⟨by (first | assumption | omega | (simp [bl, up] <;> omega)), by (first | assumption | omega | (simp [bl, up] <;> omega))⟩⟩ u_6_8 dX2_copyFrom_10 (g 7 o q 1) (by simp [up]) ?_
  refine pt_7_1 (pc := 13) C ⟨⟨by (first | assumption | omega | (simp [bl, up] <;> omega)), by (first | assumption | omega | (simp [bl, up] <;> omega))⟩, ⟨by (first | assumption | omega | (simp [bl, up] <;> omega)), by (first | assumption | omega | (simp [bl, up] <;> omega))⟩⟩ u_6_8 dX2_copyFrom_13 ?_
  refine v_aload_n (pc := 16) C 0 rfl rfl dX2_copyFrom_16 ?_
  refine v_aload_n (pc := 17) C 1 rfl rfl dX2_copyFrom_17 ?_
  refine gt_7_2 (pc := 18) C ⟨⟨by (first | assumption | omega | (simp [bl, up] <;> omega)), by (first | assumption | omega | (simp [bl, up] <;> omega))⟩, ⟨by (first | assumption | omega | (simp [bl, up] <;> omega)), by (first | assumption | omega | (simp [bl, up] <;> omega))⟩⟩ u_11_20 dX2_copyFrom_18 (g 7 o q 2) (by simp [up]) ?_
  refine pt_7_2 (pc := 21) C ⟨⟨by (first | assumption | omega | (simp [bl, up] <;> omega)), by (first | assumption | omega | (simp [bl, up] <;> omega))⟩, ⟨by (first | assumption | omega | (simp [bl, up] <;> omega)), by (first | assumption | omega | (simp [bl, up] <;> omega))⟩⟩ u_11_20 dX2_copyFrom_21 ?_
  refine v_aload_n (pc := 24) C 0 rfl rfl dX2_copyFrom_24 ?_
  refine v_aload_n (pc := 25) C 1 rfl rfl dX2_copyFrom_25 ?_
  refine gt_7_3 (pc := 26) C ⟨⟨by (first | assumption | omega | (simp [bl, up] <;> omega)), by (first | assumption | omega | (simp [bl, up] <;> omega))⟩, ⟨by (first | assumption | omega | (simp [bl, up] <;> omega)), by (first | assumption | omega | (simp [bl, up] <;> omega))⟩⟩ u_6_9 dX2_copyFrom_26 (g 7 o q 3) (by simp [up]) ?_
  refine pt_7_3 (pc := 29) C ⟨⟨by (first | assumption | omega | (simp [bl, up] <;> omega)), by (first | assumption | omega | (simp [bl, up] <;> omega))⟩, ⟨by (first | assumption | omega | (simp [bl, up] <;> omega)), by (first | assumption | omega | (simp [bl, up] <;> omega))⟩⟩ u_6_9 dX2_copyFrom_29 ?_
  refine v_aload_n (pc := 32) C 0 rfl rfl dX2_copyFrom_32 ?_
  refine v_aload_n (pc := 33) C 1 rfl rfl dX2_copyFrom_33 ?_
  refine gt_7_4 (pc := 34) C ⟨⟨by (first | assumption | omega | (simp [bl, up] <;> omega)), by (first | assumption | omega | (simp [bl, up] <;> omega))⟩, ⟨by (first | assumption | omega | (simp [bl, up] <;> omega)), by (first | assumption | omega | (simp [bl, up] <;> omega))⟩⟩ u_11_21 dX2_copyFrom_34 (g 7 o q 4) (by simp [up]) ?_
  refine pt_7_4 (pc := 37) C ⟨⟨by (first | assumption | omega | (simp [bl, up] <;> omega)), by (first | assumption | omega | (simp [bl, up] <;> omega))⟩, ⟨by (first | assumption | omega | (simp [bl, up] <;> omega)), by (first | assumption | omega | (simp [bl, up] <;> omega))⟩⟩ u_11_21 dX2_copyFrom_37 ?_
  exact v_vret (pc := 40) C hr hlk (rfl) dX2_copyFrom_40
set_option maxHeartbeats 4000000 in
set_option maxRecDepth 100000 in
theorem ct_X4_copyFrom (l : Launch) (L : Lay) (g : St) (k j o q : Int) (hk : 0 ≤ k ∧ k < 9) (hj : 0 ≤ j ∧ j < 4) (ho : 0 ≤ o ∧ o < 9) (hq : 0 ≤ q ∧ q < 4) : Met l yX4_copyFrom (.code yX4_copyFrom cX4_copyFrom 2 none :: wsL_law) { frames := 0, cells := 0, slots := 0, locals := 0 } (va_Pc [.ref (adr L 6 k j), .ref (adr L 6 o q)] (HS L g)) (va_Qv (fun (u9 : St) => u9 = (up (up (up (up (up (up g 6 k j 0 (g 6 o q 0)) 6 k j 1 (g 6 o q 1)) 6 k j 2 (g 6 o q 2)) 6 k j 3 (g 6 o q 3)) 6 k j 4 (g 6 o q 4)) 6 k j 5 (g 6 o q 5))) (fun u t => HS L u t) (Af L)) 0 0 (Af L) := by
  refine ct_mk (by decide +kernel) (Nat.le_of_ble_eq_true rfl) ?_
  intro pp ee ss mm bel mth cx C hr hlk
  show V pp l ee { frames := 0, cells := 0, slots := 0, locals := 0 } ss mm ([.ref (adr L 6 k j), .ref (adr L 6 o q)]).toArray bel mth cx 2 L (HH L g) 0 0 _ 0 [(0, .ref (adr L 6 k j)), (1, .ref (adr L 6 o q))] []
  refine v_aload_n (pc := 0) C 0 rfl rfl dX4_copyFrom_0 ?_
  refine v_aload_n (pc := 1) C 1 rfl rfl dX4_copyFrom_1 ?_
  refine gt_6_0 (pc := 2) C ⟨⟨by (first | assumption | omega | (simp [bl, up] <;> omega)), by (first | assumption | omega | (simp [bl, up] <;> omega))⟩, ⟨by (first | assumption | omega | (simp [bl, up] <;> omega)), by (first | assumption | omega | (simp [bl, up] <;> omega))⟩⟩ u_3_5 dX4_copyFrom_2 (g 6 o q 0) (rfl) ?_
  refine pt_6_0 (pc := 5) C ⟨⟨by (first | assumption | omega | (simp [bl, up] <;> omega)), by (first | assumption | omega | (simp [bl, up] <;> omega))⟩, ⟨by (first | assumption | omega | (simp [bl, up] <;> omega)), by (first | assumption | omega | (simp [bl, up] <;> omega))⟩⟩ u_3_5 dX4_copyFrom_5 ?_
  refine v_aload_n (pc := 8) C 0 rfl rfl dX4_copyFrom_8 ?_
  refine v_aload_n (pc := 9) C 1 rfl rfl dX4_copyFrom_9 ?_
  refine gt_6_1 (pc := 10) C ⟨⟨by (first | assumption | omega | (simp [bl, up] <;> omega)), by (first | assumption | omega | (simp [bl, up] <;> omega))⟩, ⟨by (first | assumption | omega | (simp [bl, up] <;> omega)), by (first | assumption | omega | (simp [bl, up] <;> omega))⟩⟩ u_11_10 dX4_copyFrom_10 (g 6 o q 1) (by simp [up]) ?_
  refine pt_6_1 (pc := 13) C ⟨⟨by (first | assumption | omega | (simp [bl, up] <;> omega)), by (first | assumption | omega | (simp [bl, up] <;> omega))⟩, ⟨by (first | assumption | omega | (simp [bl, up] <;> omega)), by (first | assumption | omega | (simp [bl, up] <;> omega))⟩⟩ u_11_10 dX4_copyFrom_13 ?_
  refine v_aload_n (pc := 16) C 0 rfl rfl dX4_copyFrom_16 ?_
  refine v_aload_n (pc := 17) C 1 rfl rfl dX4_copyFrom_17 ?_
  refine gt_6_2 (pc := 18) C ⟨⟨by (first | assumption | omega | (simp [bl, up] <;> omega)), by (first | assumption | omega | (simp [bl, up] <;> omega))⟩, ⟨by (first | assumption | omega | (simp [bl, up] <;> omega)), by (first | assumption | omega | (simp [bl, up] <;> omega))⟩⟩ u_11_11 dX4_copyFrom_18 (g 6 o q 2) (by simp [up]) ?_
  refine pt_6_2 (pc := 21) C ⟨⟨by (first | assumption | omega | (simp [bl, up] <;> omega)), by (first | assumption | omega | (simp [bl, up] <;> omega))⟩, ⟨by (first | assumption | omega | (simp [bl, up] <;> omega)), by (first | assumption | omega | (simp [bl, up] <;> omega))⟩⟩ u_11_11 dX4_copyFrom_21 ?_
  refine v_aload_n (pc := 24) C 0 rfl rfl dX4_copyFrom_24 ?_
  refine v_aload_n (pc := 25) C 1 rfl rfl dX4_copyFrom_25 ?_
  refine gt_6_3 (pc := 26) C ⟨⟨by (first | assumption | omega | (simp [bl, up] <;> omega)), by (first | assumption | omega | (simp [bl, up] <;> omega))⟩, ⟨by (first | assumption | omega | (simp [bl, up] <;> omega)), by (first | assumption | omega | (simp [bl, up] <;> omega))⟩⟩ u_11_12 dX4_copyFrom_26 (g 6 o q 3) (by simp [up]) ?_
  refine pt_6_3 (pc := 29) C ⟨⟨by (first | assumption | omega | (simp [bl, up] <;> omega)), by (first | assumption | omega | (simp [bl, up] <;> omega))⟩, ⟨by (first | assumption | omega | (simp [bl, up] <;> omega)), by (first | assumption | omega | (simp [bl, up] <;> omega))⟩⟩ u_11_12 dX4_copyFrom_29 ?_
  refine v_aload_n (pc := 32) C 0 rfl rfl dX4_copyFrom_32 ?_
  refine v_aload_n (pc := 33) C 1 rfl rfl dX4_copyFrom_33 ?_
  refine gt_6_4 (pc := 34) C ⟨⟨by (first | assumption | omega | (simp [bl, up] <;> omega)), by (first | assumption | omega | (simp [bl, up] <;> omega))⟩, ⟨by (first | assumption | omega | (simp [bl, up] <;> omega)), by (first | assumption | omega | (simp [bl, up] <;> omega))⟩⟩ u_11_13 dX4_copyFrom_34 (g 6 o q 4) (by simp [up]) ?_
  refine pt_6_4 (pc := 37) C ⟨⟨by (first | assumption | omega | (simp [bl, up] <;> omega)), by (first | assumption | omega | (simp [bl, up] <;> omega))⟩, ⟨by (first | assumption | omega | (simp [bl, up] <;> omega)), by (first | assumption | omega | (simp [bl, up] <;> omega))⟩⟩ u_11_13 dX4_copyFrom_37 ?_
  refine v_aload_n (pc := 40) C 0 rfl rfl dX4_copyFrom_40 ?_
  refine v_aload_n (pc := 41) C 1 rfl rfl dX4_copyFrom_41 ?_
  refine gt_6_5 (pc := 42) C ⟨⟨by (first | assumption | omega | (simp [bl, up] <;> omega)), by (first | assumption | omega | (simp [bl, up] <;> omega))⟩, ⟨by (first | assumption | omega | (simp [bl, up] <;> omega)), by (first | assumption | omega | (simp [bl, up] <;> omega))⟩⟩ u_11_14 dX4_copyFrom_42 (g 6 o q 5) (by simp [up]) ?_
  refine pt_6_5 (pc := 45) C ⟨⟨by (first | assumption | omega | (simp [bl, up] <;> omega)), by (first | assumption | omega | (simp [bl, up] <;> omega))⟩, ⟨by (first | assumption | omega | (simp [bl, up] <;> omega)), by (first | assumption | omega | (simp [bl, up] <;> omega))⟩⟩ u_11_14 dX4_copyFrom_45 ?_
  exact v_vret (pc := 48) C hr hlk (rfl) dX4_copyFrom_48
