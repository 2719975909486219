/-! the constructors -/
theorem updE_s' {w : Nat → va_E} {i q : Nat} {e : va_E} (h : q = i) : updE w i e q = e := if_pos h
def arP (L : Lay) (w : Nat → va_E) (i t N : Nat) (R : Nat → Nat) (j : Nat) : Prop := ∃ fn : Nat → Option Nat, w i = .inl (L.2.1 t, N, .inr (.inr (.inr (.inr fn)))) ∧ ∀ q, q < j → fn q = some (L.2.2 + R q)
def arI (L : Lay) (w : Nat → va_E) (i t N : Nat) (f : Nat → Int) (j : Nat) : Prop := ∃ fn : Nat → Int32, w i = .inl (L.2.1 t, N, .inl fn) ∧ ∀ q, q < j → fn q = iI (f q)
theorem arP.up {L : Lay} {w : Nat → va_E} {i t N j a : Nat} {R : Nat → Nat} {fn : Nat → Option Nat} (h : ∀ q, q < j → fn q = some (L.2.2 + R q)) (ha : a = R j) : arP L (updE w i (.inl (L.2.1 t, N, .inr (.inr (.inr (.inr (va_up fn ((j : Int).toNat) (some (L.2.2 + a))))))))) i t N R (j + 1) := by
  refine ⟨_, updE_s, fun q hq => ?_⟩
  show (if q = ((j : Int).toNat) then _ else _) = _
  by_cases h2 : q = j
  · subst h2; subst ha; rw [if_pos (by omega)]
  · rw [if_neg (by omega)]; exact h q (by omega)
theorem arI.up {L : Lay} {w : Nat → va_E} {i t N j : Nat} {f : Nat → Int} {fn : Nat → Int32} {z : Int} (h : ∀ q, q < j → fn q = iI (f q)) (ha : z = f j) : arI L (updE w i (.inl (L.2.1 t, N, .inl (upd fn ((j : Int).toNat) (iI z))))) i t N f (j + 1) := by
  refine ⟨_, updE_s, fun q hq => ?_⟩
  show (if q = ((j : Int).toNat) then _ else _) = _
  by_cases h2 : q = j
  · subst h2; subst ha; rw [if_pos (by omega)]
  · rw [if_neg (by omega)]; exact h q (by omega)
theorem arP.of {L : Lay} {w w' : Nat → va_E} {i t N j : Nat} {R : Nat → Nat} (h : arP L w i t N R j) (e : w' i = w i) : arP L w' i t N R j := by
  obtain ⟨fn, a, b⟩ := h; exact ⟨fn, e.trans a, b⟩
theorem arI.of {L : Lay} {w w' : Nat → va_E} {i t N j : Nat} {f : Nat → Int} (h : arI L w i t N f j) (e : w' i = w i) : arI L w' i t N f j := by
  obtain ⟨fn, a, b⟩ := h; exact ⟨fn, e.trans a, b⟩
def fsN (j : Nat) : Int := match j with | 0 => 12 | 1 => 3 | _ => 2
abbrev eB (p v r : Int) : va_E := .inr (0, [.int (iI p), .int (iI v), .int (iI r)])
abbrev eP (p : Int) : va_E := .inr (4, [.int (iI p), .int (iI 0), .int (iI 0), .int (iI 0), .int (iI 0), .int (iI 0)])
abbrev eE : va_E := .inr (2, [.int (iI 0), .int (iI 0), .int (iI 0), .int (iI 0), .int (iI 0)])
def CF (L : Lay) (w : Nat → va_E) (b : Nat) : Prop := w b = .inr (1, [.int (iI 0), .int (iI 0), .int (iI 0), .ref (L.2.2 + (b + 1)), .ref (L.2.2 + (b + 2)), .ref (L.2.2 + (b + 3)), .ref (L.2.2 + (b + 4))]) ∧ arI L w (b + 1) 0 3 fsN 3 ∧ w (b + 2) = eB 0 1 1 ∧ arP L w (b + 3) 3 4 (fun q => b + 5 + q) 4 ∧ arP L w (b + 4) 4 24 (fun q => b + 9 + q) 24 ∧ (∀ q, q < 4 → w (b + 5 + q) = eP (2 * q + 2)) ∧ (∀ q, q < 24 → w (b + 9 + q) = eE)
theorem CF.of {L : Lay} {w w' : Nat → va_E} {b : Nat} (h : CF L w b) (e : ∀ q, b ≤ q → q < b + 33 → w' q = w q) : CF L w' b := by
  obtain ⟨a1, a2, a3, a4, a5, a6, a7⟩ := h
  exact ⟨(e _ (by omega) (by omega)).trans a1, a2.of (e _ (by omega) (by omega)), (e _ (by omega) (by omega)).trans a3, a4.of (e _ (by omega) (by omega)), a5.of (e _ (by omega) (by omega)), fun q hq => (e _ (by omega) (by omega)).trans (a6 q hq), fun q hq => (e _ (by omega) (by omega)).trans (a7 q hq)⟩

theorem dvX0 : ∀ j, j < 3 → defaultValue (tyX0 j) = vp_V ([.int (iI 0), .int (iI 0), .int (iI 0)] : List Value) j := by
  intro j hj
  match j, hj with
  | 0, _ => rfl
  | 1, _ => rfl
  | 2, _ => rfl
theorem dvX1 : ∀ j, j < 7 → defaultValue (tyX1 j) = vp_V ([.int (iI 0), .int (iI 0), .int (iI 0), .null, .null, .null, .null] : List Value) j := by
  intro j hj
  match j, hj with
  | 0, _ => rfl
  | 1, _ => rfl
  | 2, _ => rfl
  | 3, _ => rfl
  | 4, _ => rfl
  | 5, _ => rfl
  | 6, _ => rfl
theorem dvX2 : ∀ j, j < 5 → defaultValue (tyX2 j) = vp_V ([.int (iI 0), .int (iI 0), .int (iI 0), .int (iI 0), .int (iI 0)] : List Value) j := by
  intro j hj
  match j, hj with
  | 0, _ => rfl
  | 1, _ => rfl
  | 2, _ => rfl
  | 3, _ => rfl
  | 4, _ => rfl
theorem dvX3 : ∀ j, j < 2 → defaultValue (tyX3 j) = vp_V ([.null, .int (iI 0)] : List Value) j := by
  intro j hj
  match j, hj with
  | 0, _ => rfl
  | 1, _ => rfl
theorem dvX4 : ∀ j, j < 6 → defaultValue (tyX4 j) = vp_V ([.int (iI 0), .int (iI 0), .int (iI 0), .int (iI 0), .int (iI 0), .int (iI 0)] : List Value) j := by
  intro j hj
  match j, hj with
  | 0, _ => rfl
  | 1, _ => rfl
  | 2, _ => rfl
  | 3, _ => rfl
  | 4, _ => rfl
  | 5, _ => rfl
theorem dvX5 : ∀ j, j < 2 → defaultValue (tyX5 j) = vp_V ([.null, .int (iI 0)] : List Value) j := by
  intro j hj
  match j, hj with
  | 0, _ => rfl
  | 1, _ => rfl
theorem dvX6 : ∀ j, j < 6 → defaultValue (tyX6 j) = vp_V ([.null, .null, .null, .null, .null, .null] : List Value) j := by
  intro j hj
  match j, hj with
  | 0, _ => rfl
  | 1, _ => rfl
  | 2, _ => rfl
  | 3, _ => rfl
  | 4, _ => rfl
  | 5, _ => rfl
theorem ct_mk_X0 (l : Launch) {L : Lay} {w : Nat → va_E} {n i : Nat} (hi : i < n) (he : w i = .inr (0, [.int (iI 0), .int (iI 0), .int (iI 0)])) : Met l yX0_init (.code yX0_init cX0_init 1 none :: wsL_law) { frames := 1, cells := 0, slots := 0, locals := 12 } (va_Pc [.ref (L.2.2 + i)] (NS L w n)) (va_Qv (fun x : WN => x.2 = n ∧ (∀ q, q ≠ i → x.1 q = w q) ∧ x.1 i = eB 0 1 1) (fun x t => NS L x.1 x.2 t) (Af L)) 0 0 (Af L) := by
  refine ct_mkN (by decide +kernel) rfl (Nat.le_of_ble_eq_true rfl) ?_
  intro p e s m below meth c C X hin hr hlk
  show V p l e { frames := 1, cells := 0, slots := 0, locals := 12 } s m ([.ref (L.2.2 + i)]).toArray below meth c 1 L (HN L w n) 0 0 _ 0 [(0, .ref (L.2.2 + i))] []
  refine v_aload_n (pc := 0) C 0 rfl rfl dX0_init_0 ?_
  refine n_obj (pc := 1) C u_2_22 (by decide) (by decide) dX0_init_1 ?_
  refine v_aload_n (pc := 4) C 0 rfl rfl dX0_init_4 ?_
  refine v_iconst (pc := 5) C dX0_init_5 ?_
  refine n_put (pc := 6) C (ci := 0) (N := 3) 1 (by omega) (by (repeat (first | assumption | exact updE_s | exact updE_s' (by omega) | refine (updE_o (by omega)).trans ?_))) rfl inlX0 tyX0_ok nmX0 (by decide) u_2_23 rfl rfl (tyX0_ok 1 (by decide)) rfl rfl (by exact Nat.le_of_ble_eq_true rfl) dX0_init_6 ?_
  refine v_aload_n (pc := 9) C 0 rfl rfl dX0_init_9 ?_
  refine v_iconst (pc := 10) C dX0_init_10 ?_
  refine n_put (pc := 11) C (ci := 0) (N := 3) 2 (by omega) (by (repeat (first | assumption | exact updE_s | exact updE_s' (by omega) | refine (updE_o (by omega)).trans ?_))) rfl inlX0 tyX0_ok nmX0 (by decide) u_3_0 rfl rfl (tyX0_ok 2 (by decide)) rfl rfl (by exact Nat.le_of_ble_eq_true rfl) dX0_init_11 ?_
  exact n_vret (pc := 14) C X hr hlk (⟨rfl, fun q hq => (updE_o hq).trans (updE_o hq), updE_s⟩) dX0_init_14
theorem ct_mk_X2 (l : Launch) {L : Lay} {w : Nat → va_E} {n i : Nat} : Met l yX2_init (.code yX2_init cX2_init 1 none :: wsL_law) { frames := 1, cells := 0, slots := 0, locals := 12 } (va_Pc [.ref (L.2.2 + i)] (NS L w n)) (va_Qv (fun x : WN => x.2 = n ∧ x.1 = w) (fun x t => NS L x.1 x.2 t) (Af L)) 0 0 (Af L) := by
  refine ct_mkN (by decide +kernel) rfl (Nat.le_of_ble_eq_true rfl) ?_
  intro p e s m below meth c C X hin hr hlk
  show V p l e { frames := 1, cells := 0, slots := 0, locals := 12 } s m ([.ref (L.2.2 + i)]).toArray below meth c 1 L (HN L w n) 0 0 _ 0 [(0, .ref (L.2.2 + i))] []
  refine v_aload_n (pc := 0) C 0 rfl rfl dX2_init_0 ?_
  refine n_obj (pc := 1) C u_3_8 (by decide) (by decide) dX2_init_1 ?_
  exact n_vret (pc := 4) C X hr hlk (⟨rfl, rfl⟩) dX2_init_4
theorem ct_mk_X4 (l : Launch) {L : Lay} {w : Nat → va_E} {n i : Nat} {z : Int} (hi : i < n) (he : w i = eP 0) : Met l yX4_init (.code yX4_init cX4_init 2 none :: wsL_law) { frames := 1, cells := 0, slots := 0, locals := 12 } (va_Pc [.ref (L.2.2 + i), .int (iI z)] (NS L w n)) (va_Qv (fun x : WN => x.2 = n ∧ (∀ q, q ≠ i → x.1 q = w q) ∧ x.1 i = eP z) (fun x t => NS L x.1 x.2 t) (Af L)) 0 0 (Af L) := by
  refine ct_mkN (by decide +kernel) rfl (Nat.le_of_ble_eq_true rfl) ?_
  intro p e s m below meth c C X hin hr hlk
  show V p l e { frames := 1, cells := 0, slots := 0, locals := 12 } s m ([.ref (L.2.2 + i), .int (iI z)]).toArray below meth c 2 L (HN L w n) 0 0 _ 0 [(0, .ref (L.2.2 + i)), (1, .int (iI z))] []
  refine v_aload_n (pc := 0) C 0 rfl rfl dX4_init_0 ?_
  refine n_obj (pc := 1) C u_3_4 (by decide) (by decide) dX4_init_1 ?_
  refine v_aload_n (pc := 4) C 0 rfl rfl dX4_init_4 ?_
  refine v_iload_n (pc := 5) C 1 rfl rfl dX4_init_5 ?_
  refine n_put (pc := 6) C (ci := 4) (N := 6) 0 (by omega) (by (repeat (first | assumption | exact updE_s | exact updE_s' (by omega) | refine (updE_o (by omega)).trans ?_))) rfl inlX4 tyX4_ok nmX4 (by decide) u_3_5 rfl rfl (tyX4_ok 0 (by decide)) rfl rfl (by exact Nat.le_of_ble_eq_true rfl) dX4_init_6 ?_
  exact n_vret (pc := 9) C X hr hlk (⟨rfl, fun q hq => updE_o hq, updE_s⟩) dX4_init_9
theorem ct_mk_X5 (l : Launch) {L : Lay} {w : Nat → va_E} {n i : Nat} (hi : i < n) (he : w i = .inr (5, [.null, .int (iI 0)])) : Met l yX5_init (.code yX5_init cX5_init 1 none :: wsL_law) { frames := 1, cells := 1, slots := 60, locals := 12 } (va_Pc [.ref (L.2.2 + i)] (NS L w n)) (va_Qv (fun x : WN => x.2 = n + 1 ∧ (∀ q, q < n → q ≠ i → x.1 q = w q) ∧ x.1 i = .inr (5, [.ref (L.2.2 + n), .int (iI 0)]) ∧ x.1 n = .inl (L.2.1 0, 60, .inl (fun _ => iI 0))) (fun x t => NS L x.1 x.2 t) (Af L)) 1 60 (Af L) := by
  refine ct_mkN (by decide +kernel) rfl (Nat.le_of_ble_eq_true rfl) ?_
  intro p e s m below meth c C X hin hr hlk
  show V p l e { frames := 1, cells := 1, slots := 60, locals := 12 } s m ([.ref (L.2.2 + i)]).toArray below meth c 1 L (HN L w n) 0 0 _ 0 [(0, .ref (L.2.2 + i))] []
  refine v_aload_n (pc := 0) C 0 rfl rfl dX5_init_0 ?_
  refine n_obj (pc := 1) C u_3_18 (by decide) (by decide) dX5_init_1 ?_
  refine v_aload_n (pc := 4) C 0 rfl rfl dX5_init_4 ?_
  refine v_bipush (pc := 5) C rfl dX5_init_5 ?_
  refine n_newa (pc := 7) C (ty := .int) (cA := L.2.1 0) 0 rfl rfl (fun h => va_nm_int h) u_1_3 (N := 60) (a0 := (60, .inl (fun _ => iI 0))) rfl ⟨by decide, by decide, by decide⟩ (by decide) (by constructor <;> first | decide | (dsimp only; omega)) dX5_init_7 ?_
  refine n_putF (pc := 9) C hin (ci := 5) (N := 2) 0 (by omega) (by (repeat (first | assumption | exact updE_s | exact updE_s' (by omega) | refine (updE_o (by omega)).trans ?_))) rfl inlX5 tyX5_ok nmX5 (by decide) u_3_19 rfl rfl (tyX5_ok 0 (by decide)) rfl rfl (by exact Nat.le_of_ble_eq_true rfl) dX5_init_9 ?_
  exact n_vret (pc := 12) C X hr hlk (⟨rfl, fun q h1 h2 => (updE_o h2).trans (updE_o (by omega)), updE_s, (updE_o (by omega)).trans updE_s⟩) dX5_init_12
theorem ct_mk_X1 (l : Launch) {L : Lay} {w : Nat → va_E} {b : Nat} (he : w b = .inr (1, [.int (iI 0), .int (iI 0), .int (iI 0), .null, .null, .null, .null])) : Met l yX1_init (.code yX1_init cX1_init 2 none :: wsL_law) { frames := 2, cells := 32, slots := 178, locals := 33 } (va_Pc [.ref (L.2.2 + b)] (NS L w (b + 1))) (va_Qv (fun x : WN => x.2 = b + 33 ∧ (∀ q, q < b → x.1 q = w q) ∧ CF L x.1 b) (fun x t => NS L x.1 x.2 t) (Af L)) 32 178 (Af L) := by
  refine ct_mkN (by decide +kernel) rfl (Nat.le_of_ble_eq_true rfl) ?_
  intro p e s m below meth c C X hin hr hlk
  obtain ⟨t1, t2, t3, -, -, hZ, hT⟩ := C.2.2.2.2.2.2.1.2.1
  have h3 : ∀ (k j : Nat) (w3 : Nat → va_E), j + k = 24 → (∀ q, q < b → w3 q = w q) → w3 b = .inr (1, [.int (iI 0), .int (iI 0), .int (iI 0), .ref (L.2.2 + (b + 1)), .ref (L.2.2 + (b + 2)), .ref (L.2.2 + (b + 3)), .ref (L.2.2 + (b + 4))]) → arI L w3 (b + 1) 0 3 fsN 3 → w3 (b + 2) = eB 0 1 1 → arP L w3 (b + 3) 3 4 (fun q => b + 5 + q) 4 → (∀ q, q < 4 → w3 (b + 5 + q) = eP (2 * q + 2)) → arP L w3 (b + 4) 4 24 (fun q => b + 9 + q) j → (∀ q, q < j → w3 (b + 9 + q) = eE) → V p l e { frames := 2, cells := 32, slots := 178, locals := 33 } s m ([.ref (L.2.2 + b)]).toArray below meth c 2 L (HN L w3 (b + 9 + j)) (8 + j) (58 + 5 * j) (MQ below (va_Qv (fun x : WN => x.2 = b + 33 ∧ (∀ q, q < b → x.1 q = w q) ∧ CF L x.1 b) (fun x t => NS L x.1 x.2 t) (Af L)) ([.ref (L.2.2 + b)]).toArray s 32 178 (Af L)) 96 [(1, .int (iI ((j : Nat) : Int))), (0, .ref (L.2.2 + b))] [] := by
    intro k
    induction k with
    | zero =>
      intro j w3 hj f1 f2 f3 f4 f5 f6 f7 f8
      obtain rfl : j = 24 := by omega
      obtain ⟨fn, hfn, hfq⟩ := f7
      refine v_iload_n (pc := 96) C 0 rfl rfl dX1_init_96 ?_
      refine v_aload_n (pc := 97) C 1 rfl rfl dX1_init_97 ?_
      refine n_get (pc := 98) C (ci := 1) (N := 7) 6 (by omega) (by (repeat (first | assumption | exact updE_s | exact updE_s' (by omega) | refine (updE_o (by omega)).trans ?_))) rfl inlX1 (by decide) u_2_15 rfl rfl dX1_init_98 ?_
      refine n_alen (pc := 101) C (i := b + 4) (t0 := 4) (by omega) hfn rfl 24 (by show Int32.ofNat 24 = iI 24; decide) dX1_init_101 ?_
      refine v_icmp_ge (pc := 102) C 124 ⟨by omega, by omega⟩ ⟨by omega, by omega⟩ (by decide) dX1_init_102 (fun h => ?_) (fun h => ?_)
      · exact n_vret (pc := 124) C X hr hlk ⟨rfl, f1, f2, f3, f4, f5, ⟨fn, hfn, hfq⟩, f6, f8⟩ dX1_init_124
      · exact absurd h (by omega)
    | succ k ih =>
      intro j w3 hj f1 f2 f3 f4 f5 f6 f7 f8
      obtain ⟨fn, hfn, hfq⟩ := f7
      refine v_iload_n (pc := 96) C 0 rfl rfl dX1_init_96 ?_
      refine v_aload_n (pc := 97) C 1 rfl rfl dX1_init_97 ?_
      refine n_get (pc := 98) C (ci := 1) (N := 7) 6 (by omega) (by (repeat (first | assumption | exact updE_s | exact updE_s' (by omega) | refine (updE_o (by omega)).trans ?_))) rfl inlX1 (by decide) u_2_15 rfl rfl dX1_init_98 ?_
      refine n_alen (pc := 101) C (i := b + 4) (t0 := 4) (by omega) hfn rfl 24 (by show Int32.ofNat 24 = iI 24; decide) dX1_init_101 ?_
      refine v_icmp_ge (pc := 102) C 124 ⟨by omega, by omega⟩ ⟨by omega, by omega⟩ (by decide) dX1_init_102 (fun h => ?_) (fun h => ?_)
      · exact absurd h (by omega)
      · skip
        refine v_aload_n (pc := 105) C 1 rfl rfl dX1_init_105 ?_
        refine n_get (pc := 106) C (ci := 1) (N := 7) 6 (by omega) (by (repeat (first | assumption | exact updE_s | exact updE_s' (by omega) | refine (updE_o (by omega)).trans ?_))) rfl inlX1 (by decide) u_2_15 rfl rfl dX1_init_106 ?_
        refine v_iload_n (pc := 109) C 0 rfl rfl dX1_init_109 ?_
        refine n_new (pc := 110) C (ci := 2) inlX2 tyX2 (tyX2_ok) u_2_14 u_2_18 u_2_19 rfl (fs := [.int (iI 0), .int (iI 0), .int (iI 0), .int (iI 0), .int (iI 0)]) dvX2 (by constructor <;> first | decide | (dsimp only; omega)) dX1_init_110 ?_
        refine v_dup (pc := 113) C rfl dX1_init_113 ?_
        refine n_callN (pc := 114) C X (i := b + 9 + j) (As := []) X.1.2.1 ⟨u_3_6, u_2_19, u_3_7⟩ ⟨by decide, by decide, by decide, rfl⟩ (ct_mk_X2 l) ⟨by decide, by decide⟩ rfl (Nat.le_of_ble_eq_true rfl) (by constructor <;> first | decide | (dsimp only; omega)) rfl dX1_init_114 ?_
        rintro ⟨w4, n4⟩ ⟨hn4, hw4⟩
        dsimp only at hn4 hw4 ⊢
        subst hn4; subst hw4
        refine n_aast (pc := 117) C (i := b + 4) (i2 := b + 9 + j) (t0 := 4) (ci := 2) (r := (RX2, TX2, 5)) (by omega) ((updE_o (by omega)).trans hfn) rfl (by omega) updE_s rfl ⟨by omega, by omega⟩ (by decide) dX1_init_117 ?_
        refine v_iinc (pc := 118) C 0 [(1, .int (iI (((j : Nat) : Int) + 1))), (0, .ref (L.2.2 + b))] rfl (by decide) rfl dX1_init_118 ?_
        refine v_goto (pc := 121) C 96 (by decide) dX1_init_121 ?_
        refine n_widen (k := 8 + (j + 1)) (z := 58 + 5 * (j + 1)) (by omega) (by omega) (ih (j + 1) _ (by omega) (fun q hq => (updE_o (by omega)).trans ((updE_o (by omega)).trans (f1 q hq))) ((updE_o (by omega)).trans ((updE_o (by omega)).trans (f2))) (f3.of ((updE_o (by omega)).trans ((updE_o (by omega)).trans (rfl)))) ((updE_o (by omega)).trans ((updE_o (by omega)).trans (f4))) (f5.of ((updE_o (by omega)).trans ((updE_o (by omega)).trans (rfl)))) (fun q hq => (updE_o (by omega)).trans ((updE_o (by omega)).trans (f6 q hq))) (arP.up (R := fun q => b + 9 + q) hfq rfl) (fun q hq => ?_))
        by_cases h2 : q = j
        · subst h2; exact (updE_o (by omega)).trans updE_s
        · exact (updE_o (by omega)).trans ((updE_o (by omega)).trans (f8 q (by omega)))
  have h2 : ∀ (k j : Nat) (w3 : Nat → va_E), j + k = 4 → (∀ q, q < b → w3 q = w q) → w3 b = .inr (1, [.int (iI 0), .int (iI 0), .int (iI 0), .ref (L.2.2 + (b + 1)), .ref (L.2.2 + (b + 2)), .ref (L.2.2 + (b + 3)), .ref (L.2.2 + (b + 4))]) → arI L w3 (b + 1) 0 3 fsN 3 → w3 (b + 2) = eB 0 1 1 → arP L w3 (b + 3) 3 4 (fun q => b + 5 + q) j → (∀ q, q < j → w3 (b + 5 + q) = eP (2 * q + 2)) → arP L w3 (b + 4) 4 24 (fun q => b + 9 + q) 0 → V p l e { frames := 2, cells := 32, slots := 178, locals := 33 } s m ([.ref (L.2.2 + b)]).toArray below meth c 2 L (HN L w3 (b + 5 + j)) (4 + j) (34 + 6 * j) (MQ below (va_Qv (fun x : WN => x.2 = b + 33 ∧ (∀ q, q < b → x.1 q = w q) ∧ CF L x.1 b) (fun x t => NS L x.1 x.2 t) (Af L)) ([.ref (L.2.2 + b)]).toArray s 32 178 (Af L)) 65 [(1, .int (iI ((j : Nat) : Int))), (0, .ref (L.2.2 + b))] [] := by
    intro k
    induction k with
    | zero =>
      intro j w3 hj f1 f2 f3 f4 f5 f6 f7
      obtain rfl : j = 4 := by omega
      refine v_iload_n (pc := 65) C 0 rfl rfl dX1_init_65 ?_
      refine v_iconst (pc := 66) C dX1_init_66 ?_
      refine v_icmp_ge (pc := 67) C 94 ⟨by omega, by omega⟩ ⟨by omega, by omega⟩ (by decide) dX1_init_67 (fun h => ?_) (fun h => ?_)
      · skip
        refine v_iconst (pc := 94) C dX1_init_94 ?_
        refine v_istore_n (pc := 95) C [(1, .int (iI ((0 : Nat) : Int))), (0, .ref (L.2.2 + b))] rfl (by decide) rfl dX1_init_95 ?_
        exact h3 24 0 w3 rfl f1 f2 f3 f4 f5 f6 f7 (fun q hq => absurd hq (by omega))
      · exact absurd h (by omega)
    | succ k ih =>
      intro j w3 hj f1 f2 f3 f4 f5 f6 f7
      refine v_iload_n (pc := 65) C 0 rfl rfl dX1_init_65 ?_
      refine v_iconst (pc := 66) C dX1_init_66 ?_
      refine v_icmp_ge (pc := 67) C 94 ⟨by omega, by omega⟩ ⟨by omega, by omega⟩ (by decide) dX1_init_67 (fun h => ?_) (fun h => ?_)
      · exact absurd h (by omega)
      · obtain ⟨fn, hfn, hfq⟩ := f5
        refine v_aload_n (pc := 70) C 1 rfl rfl dX1_init_70 ?_
        refine n_get (pc := 71) C (ci := 1) (N := 7) 5 (by omega) (by (repeat (first | assumption | exact updE_s | exact updE_s' (by omega) | refine (updE_o (by omega)).trans ?_))) rfl inlX1 (by decide) u_2_13 rfl rfl dX1_init_71 ?_
        refine v_iload_n (pc := 74) C 0 rfl rfl dX1_init_74 ?_
        refine n_new (pc := 75) C (ci := 4) inlX4 tyX4 (tyX4_ok) u_2_12 u_2_16 u_2_17 rfl (fs := [.int (iI 0), .int (iI 0), .int (iI 0), .int (iI 0), .int (iI 0), .int (iI 0)]) dvX4 (by constructor <;> first | decide | (dsimp only; omega)) dX1_init_75 ?_
        refine v_dup (pc := 78) C rfl dX1_init_78 ?_
        refine v_iconst (pc := 79) C dX1_init_79 ?_
        refine v_iload_n (pc := 80) C 0 rfl rfl dX1_init_80 ?_
        refine v_imul (pc := 81) C dX1_init_81 ?_
        refine v_iconst (pc := 82) C dX1_init_82 ?_
        refine v_iadd (pc := 83) C dX1_init_83 ?_
        refine n_call (pc := 84) C X (i := b + 5 + j) (As := [.int (iI (2 * (j : Int) + 2))]) (P := fun x : WN => x.2 = b + 5 + j + 1 ∧ (∀ q, q ≠ b + 5 + j → x.1 q = updE w3 (b + 5 + j) (eP 0) q) ∧ x.1 (b + 5 + j) = eP (2 * (j : Int) + 2)) ⟨u_3_1, u_3_2, u_2_17, u_3_3⟩ ⟨by decide, by decide, by decide, rfl⟩ (ct_mk_X4 l (by omega) updE_s) ⟨by decide, by decide⟩ rfl (Nat.le_of_ble_eq_true rfl) (by constructor <;> first | decide | (dsimp only; omega)) rfl dX1_init_84 ?_
        rintro ⟨w4, n4⟩ ⟨hn4, ho4, hp4⟩
        dsimp only at hn4 ho4 hp4 ⊢
        subst hn4
        refine n_aast (pc := 87) C (i := b + 3) (i2 := b + 5 + j) (t0 := 3) (ci := 4) (r := (RX4, TX4, 6)) (by omega) ((ho4 _ (by omega)).trans ((updE_o (by omega)).trans hfn)) rfl (by omega) hp4 rfl ⟨by omega, by omega⟩ (by decide) dX1_init_87 ?_
        refine v_iinc (pc := 88) C 0 [(1, .int (iI (((j : Nat) : Int) + 1))), (0, .ref (L.2.2 + b))] rfl (by decide) rfl dX1_init_88 ?_
        refine v_goto (pc := 91) C 65 (by decide) dX1_init_91 ?_
        refine n_widen (k := 4 + (j + 1)) (z := 34 + 6 * (j + 1)) (by omega) (by omega) (ih (j + 1) _ (by omega) (fun q hq => (updE_o (by omega)).trans ((ho4 _ (by omega)).trans ((updE_o (by omega)).trans (f1 q hq)))) ((updE_o (by omega)).trans ((ho4 _ (by omega)).trans ((updE_o (by omega)).trans (f2)))) (f3.of ((updE_o (by omega)).trans ((ho4 _ (by omega)).trans ((updE_o (by omega)).trans (rfl))))) ((updE_o (by omega)).trans ((ho4 _ (by omega)).trans ((updE_o (by omega)).trans (f4)))) (arP.up (R := fun q => b + 5 + q) hfq rfl) (fun q hq => ?_) (f7.of ((updE_o (by omega)).trans ((ho4 _ (by omega)).trans ((updE_o (by omega)).trans (rfl))))))
        by_cases h2 : q = j
        · subst h2; exact (updE_o (by omega)).trans hp4
        · exact (updE_o (by omega)).trans ((ho4 _ (by omega)).trans ((updE_o (by omega)).trans (f6 q (by omega))))
  have h1 : ∀ (k j : Nat) (w3 : Nat → va_E), j + k = 3 → (∀ q, q < b → w3 q = w q) → w3 b = .inr (1, [.int (iI 0), .int (iI 0), .int (iI 0), .ref (L.2.2 + (b + 1)), .ref (L.2.2 + (b + 2)), .ref (L.2.2 + (b + 3)), .ref (L.2.2 + (b + 4))]) → arI L w3 (b + 1) 0 3 fsN j → w3 (b + 2) = eB 0 1 1 → arP L w3 (b + 3) 3 4 (fun q => b + 5 + q) 0 → arP L w3 (b + 4) 4 24 (fun q => b + 9 + q) 0 → V p l e { frames := 2, cells := 32, slots := 178, locals := 33 } s m ([.ref (L.2.2 + b)]).toArray below meth c 2 L (HN L w3 (b + 5)) (4) (34) (MQ below (va_Qv (fun x : WN => x.2 = b + 33 ∧ (∀ q, q < b → x.1 q = w q) ∧ CF L x.1 b) (fun x t => NS L x.1 x.2 t) (Af L)) ([.ref (L.2.2 + b)]).toArray s 32 178 (Af L)) 41 [(1, .int (iI ((j : Nat) : Int))), (0, .ref (L.2.2 + b))] [] := by
    intro k
    induction k with
    | zero =>
      intro j w3 hj f1 f2 f3 f4 f5 f7
      obtain rfl : j = 3 := by omega
      refine v_iload_n (pc := 41) C 0 rfl rfl dX1_init_41 ?_
      refine v_iconst (pc := 42) C dX1_init_42 ?_
      refine v_icmp_ge (pc := 43) C 63 ⟨by omega, by omega⟩ ⟨by omega, by omega⟩ (by decide) dX1_init_43 (fun h => ?_) (fun h => ?_)
      · skip
        refine v_iconst (pc := 63) C dX1_init_63 ?_
        refine v_istore_n (pc := 64) C [(1, .int (iI ((0 : Nat) : Int))), (0, .ref (L.2.2 + b))] rfl (by decide) rfl dX1_init_64 ?_
        exact h2 4 0 w3 rfl f1 f2 f3 f4 f5 (fun q hq => absurd hq (by omega)) f7
      · exact absurd h (by omega)
    | succ k ih =>
      intro j w3 hj f1 f2 f3 f4 f5 f7
      refine v_iload_n (pc := 41) C 0 rfl rfl dX1_init_41 ?_
      refine v_iconst (pc := 42) C dX1_init_42 ?_
      refine v_icmp_ge (pc := 43) C 63 ⟨by omega, by omega⟩ ⟨by omega, by omega⟩ (by decide) dX1_init_43 (fun h => ?_) (fun h => ?_)
      · exact absurd h (by omega)
      · obtain ⟨fn, hfn, hfq⟩ := f3
        refine v_aload_n (pc := 46) C 1 rfl rfl dX1_init_46 ?_
        refine n_get (pc := 47) C (ci := 1) (N := 7) 3 (by omega) (by (repeat (first | assumption | exact updE_s | exact updE_s' (by omega) | refine (updE_o (by omega)).trans ?_))) rfl inlX1 (by decide) u_2_9 rfl rfl dX1_init_47 ?_
        refine v_iload_n (pc := 50) C 0 rfl rfl dX1_init_50 ?_
        refine n_getsN (pc := 51) C hZ rfl X.1.2.2.2.2 dX1_init_51 ?_
        refine v_iload_n (pc := 54) C 0 rfl rfl dX1_init_54 ?_
        refine n_ti (pc := 55) C hT ⟨by omega, by omega⟩ (fsN j) (by rw [show ((j : Int).toNat) = j by omega]; rcases (by omega : j = 0 ∨ j = 1 ∨ j = 2) with rfl | rfl | rfl <;> rfl) dX1_init_55 ?_
        refine n_iast (pc := 56) C (i := b + 1) (t0 := 0) (by omega) hfn rfl ⟨by omega, by omega⟩ (by decide) dX1_init_56 ?_
        refine v_iinc (pc := 57) C 0 [(1, .int (iI (((j : Nat) : Int) + 1))), (0, .ref (L.2.2 + b))] rfl (by decide) rfl dX1_init_57 ?_
        refine v_goto (pc := 60) C 41 (by decide) dX1_init_60 ?_
        exact ih (j + 1) _ (by omega) (fun q hq => (updE_o (by omega)).trans (f1 q hq)) ((updE_o (by omega)).trans (f2)) (arI.up hfq rfl) ((updE_o (by omega)).trans (f4)) (f5.of ((updE_o (by omega)).trans (rfl))) (f7.of ((updE_o (by omega)).trans (rfl)))
  show V p l e { frames := 2, cells := 32, slots := 178, locals := 33 } s m ([.ref (L.2.2 + b)]).toArray below meth c 2 L (HN L w (b + 1)) 0 0 _ 0 [(0, .ref (L.2.2 + b))] []
  refine v_aload_n (pc := 0) C 0 rfl rfl dX1_init_0 ?_
  refine n_obj (pc := 1) C u_2_8 (by decide) (by decide) dX1_init_1 ?_
  refine v_aload_n (pc := 4) C 0 rfl rfl dX1_init_4 ?_
  refine v_iconst (pc := 5) C dX1_init_5 ?_
  refine n_newa (pc := 6) C (ty := .int) (cA := L.2.1 0) 0 rfl rfl (fun h => va_nm_int h) u_1_3 (N := 3) (a0 := (3, .inl (fun _ => iI 0))) rfl ⟨by decide, by decide, by decide⟩ (by decide) (by constructor <;> first | decide | (dsimp only; omega)) dX1_init_6 ?_
  refine n_putF (pc := 8) C hin (ci := 1) (N := 7) 3 (by omega) (by (repeat (first | assumption | exact updE_s | exact updE_s' (by omega) | refine (updE_o (by omega)).trans ?_))) rfl inlX1 tyX1_ok nmX1 (by decide) u_2_9 rfl rfl (tyX1_ok 3 (by decide)) rfl rfl (by exact Nat.le_of_ble_eq_true rfl) dX1_init_8 ?_
  refine v_aload_n (pc := 11) C 0 rfl rfl dX1_init_11 ?_
  refine n_new (pc := 12) C (ci := 0) inlX0 tyX0 (tyX0_ok) u_2_10 u_2_2 u_2_3 rfl (fs := [.int (iI 0), .int (iI 0), .int (iI 0)]) dvX0 (by constructor <;> first | decide | (dsimp only; omega)) dX1_init_12 ?_
  refine v_dup (pc := 15) C rfl dX1_init_15 ?_
  refine n_callN (pc := 16) C X (i := b + 2) (As := []) X.1.1 ⟨u_2_20, u_2_3, u_2_21⟩ ⟨by decide, by decide, by decide, rfl⟩ (ct_mk_X0 l (n := b + 3) (by omega) (by (repeat (first | assumption | exact updE_s | exact updE_s' (by omega) | refine (updE_o (by omega)).trans ?_)))) ⟨by decide, by decide⟩ rfl (Nat.le_of_ble_eq_true rfl) (by constructor <;> first | decide | (dsimp only; omega)) rfl dX1_init_16 ?_
  rintro ⟨w1, n1⟩ ⟨hn1, ho1, hb1⟩
  dsimp only at hn1 ho1 hb1 ⊢
  subst hn1
  have g0 : ∀ q, q < b → w1 q = w q := fun q hq => (ho1 q (by omega)).trans (by (repeat (first | assumption | exact updE_s | exact updE_s' (by omega) | refine (updE_o (by omega)).trans ?_)); rfl)
  have g1 : w1 b = .inr (1, [.int (iI 0), .int (iI 0), .int (iI 0), .ref (L.2.2 + (b + 1)), .null, .null, .null]) := (ho1 b (by omega)).trans (by (repeat (first | assumption | exact updE_s | exact updE_s' (by omega) | refine (updE_o (by omega)).trans ?_)))
  have g2 : w1 (b + 1) = .inl (L.2.1 0, 3, .inl (fun _ => iI 0)) := (ho1 _ (by omega)).trans (by (repeat (first | assumption | exact updE_s | exact updE_s' (by omega) | refine (updE_o (by omega)).trans ?_)))
  clear ho1
  refine n_putF (pc := 19) C hin (ci := 1) (N := 7) 4 (by omega) (by (repeat (first | assumption | exact updE_s | exact updE_s' (by omega) | refine (updE_o (by omega)).trans ?_))) rfl inlX1 tyX1_ok nmX1 (by decide) u_2_11 rfl rfl (tyX1_ok 4 (by decide)) rfl rfl (by exact Nat.le_of_ble_eq_true rfl) dX1_init_19 ?_
  refine v_aload_n (pc := 22) C 0 rfl rfl dX1_init_22 ?_
  refine v_iconst (pc := 23) C dX1_init_23 ?_
  refine n_newq (pc := 24) C (t0 := 3) (cA := L.2.1 3) rfl X.2.1 u_2_12 (N := 4) ⟨by decide, by decide, by decide⟩ (by constructor <;> first | decide | (dsimp only; omega)) dX1_init_24 ?_
  refine n_putF (pc := 27) C hin (ci := 1) (N := 7) 5 (by omega) (by (repeat (first | assumption | exact updE_s | exact updE_s' (by omega) | refine (updE_o (by omega)).trans ?_))) rfl inlX1 tyX1_ok nmX1 (by decide) u_2_13 rfl rfl (tyX1_ok 5 (by decide)) rfl rfl (by exact Nat.le_of_ble_eq_true rfl) dX1_init_27 ?_
  refine v_aload_n (pc := 30) C 0 rfl rfl dX1_init_30 ?_
  refine v_bipush (pc := 31) C rfl dX1_init_31 ?_
  refine n_newq (pc := 33) C (t0 := 4) (cA := L.2.1 4) rfl X.2.2.1 u_2_14 (N := 24) ⟨by decide, by decide, by decide⟩ (by constructor <;> first | decide | (dsimp only; omega)) dX1_init_33 ?_
  refine n_putF (pc := 36) C hin (ci := 1) (N := 7) 6 (by omega) (by (repeat (first | assumption | exact updE_s | exact updE_s' (by omega) | refine (updE_o (by omega)).trans ?_))) rfl inlX1 tyX1_ok nmX1 (by decide) u_2_15 rfl rfl (tyX1_ok 6 (by decide)) rfl rfl (by exact Nat.le_of_ble_eq_true rfl) dX1_init_36 ?_
  refine v_iconst (pc := 39) C dX1_init_39 ?_
  refine v_istore_n (pc := 40) C [(1, .int (iI ((0 : Nat) : Int))), (0, .ref (L.2.2 + b))] rfl (by decide) rfl dX1_init_40 ?_
  exact h1 3 0 _ rfl (fun q hq => by (repeat (first | assumption | exact updE_s | exact updE_s' (by omega) | refine (updE_o (by omega)).trans ?_)); exact g0 q hq) (by (repeat (first | assumption | exact updE_s | exact updE_s' (by omega) | refine (updE_o (by omega)).trans ?_))) ⟨_, by (repeat (first | assumption | exact updE_s | exact updE_s' (by omega) | refine (updE_o (by omega)).trans ?_)), fun q hq => absurd hq (by omega)⟩ (by (repeat (first | assumption | exact updE_s | exact updE_s' (by omega) | refine (updE_o (by omega)).trans ?_))) ⟨_, by (repeat (first | assumption | exact updE_s | exact updE_s' (by omega) | refine (updE_o (by omega)).trans ?_)), fun q hq => absurd hq (by omega)⟩ ⟨_, by (repeat (first | assumption | exact updE_s | exact updE_s' (by omega) | refine (updE_o (by omega)).trans ?_)), fun q hq => absurd hq (by omega)⟩
theorem ct_mk_X3 (l : Launch) {L : Lay} {w : Nat → va_E} {b : Nat} (he : w b = .inr (3, [.null, .int (iI 0)])) : Met l yX3_init (.code yX3_init cX3_init 2 none :: wsL_law) { frames := 3, cells := 199, slots := 1116, locals := 54 } (va_Pc [.ref (L.2.2 + b)] (NS L w (b + 1))) (va_Qv (fun x : WN => x.2 = b + 200 ∧ (∀ q, q < b → x.1 q = w q) ∧ x.1 b = .inr (3, [.ref (L.2.2 + (b + 1)), .int (iI 0)]) ∧ arP L x.1 (b + 1) 5 6 (fun q => b + 2 + 33 * q) 6 ∧ (∀ q, q < 6 → CF L x.1 (b + 2 + 33 * q))) (fun x t => NS L x.1 x.2 t) (Af L)) 199 1116 (Af L) := by
  refine ct_mkN (by decide +kernel) rfl (Nat.le_of_ble_eq_true rfl) ?_
  intro p e s m below meth c C X hin hr hlk
  have h1 : ∀ (k j : Nat) (w3 : Nat → va_E), j + k = 6 → (∀ q, q < b → w3 q = w q) → w3 b = .inr (3, [.ref (L.2.2 + (b + 1)), .int (iI 0)]) → arP L w3 (b + 1) 5 6 (fun q => b + 2 + 33 * q) j → (∀ q, q < j → CF L w3 (b + 2 + 33 * q)) → V p l e { frames := 3, cells := 199, slots := 1116, locals := 54 } s m ([.ref (L.2.2 + b)]).toArray below meth c 2 L (HN L w3 (b + 2 + 33 * j)) (1 + 33 * j) (6 + 185 * j) (MQ below (va_Qv (fun x : WN => x.2 = b + 200 ∧ (∀ q, q < b → x.1 q = w q) ∧ x.1 b = .inr (3, [.ref (L.2.2 + (b + 1)), .int (iI 0)]) ∧ arP L x.1 (b + 1) 5 6 (fun q => b + 2 + 33 * q) 6 ∧ (∀ q, q < 6 → CF L x.1 (b + 2 + 33 * q))) (fun x t => NS L x.1 x.2 t) (Af L)) ([.ref (L.2.2 + b)]).toArray s 199 1116 (Af L)) 15 [(1, .int (iI ((j : Nat) : Int))), (0, .ref (L.2.2 + b))] [] := by
    intro k
    induction k with
    | zero =>
      intro j w3 hj f1 f2 f3 f4
      obtain rfl : j = 6 := by omega
      refine v_iload_n (pc := 15) C 0 rfl rfl dX3_init_15 ?_
      refine v_bipush (pc := 16) C rfl dX3_init_16 ?_
      refine v_icmp_ge (pc := 18) C 40 ⟨by omega, by omega⟩ ⟨by omega, by omega⟩ (by decide) dX3_init_18 (fun h => ?_) (fun h => ?_)
      · exact n_vret (pc := 40) C X hr hlk ⟨rfl, f1, f2, f3, f4⟩ dX3_init_40
      · exact absurd h (by omega)
    | succ k ih =>
      intro j w3 hj f1 f2 f3 f4
      refine v_iload_n (pc := 15) C 0 rfl rfl dX3_init_15 ?_
      refine v_bipush (pc := 16) C rfl dX3_init_16 ?_
      refine v_icmp_ge (pc := 18) C 40 ⟨by omega, by omega⟩ ⟨by omega, by omega⟩ (by decide) dX3_init_18 (fun h => ?_) (fun h => ?_)
      · exact absurd h (by omega)
      · obtain ⟨fn, hfn, hfq⟩ := f3
        refine v_aload_n (pc := 21) C 1 rfl rfl dX3_init_21 ?_
        refine n_get (pc := 22) C (ci := 3) (N := 2) 0 (by omega) (by (repeat (first | assumption | exact updE_s | exact updE_s' (by omega) | refine (updE_o (by omega)).trans ?_))) rfl inlX3 (by decide) u_3_14 rfl rfl dX3_init_22 ?_
        refine v_iload_n (pc := 25) C 0 rfl rfl dX3_init_25 ?_
        refine n_new (pc := 26) C (ci := 1) inlX1 tyX1 (tyX1_ok) u_3_13 u_1_11 u_1_12 rfl (fs := [.int (iI 0), .int (iI 0), .int (iI 0), .null, .null, .null, .null]) dvX1 (by constructor <;> first | decide | (dsimp only; omega)) dX3_init_26 ?_
        refine v_dup (pc := 29) C rfl dX3_init_29 ?_
        refine n_call (pc := 30) C X (i := b + 2 + 33 * j) (As := []) ⟨u_3_15, u_2_6, u_1_12, u_2_7⟩ ⟨by decide, by decide, by decide, rfl⟩ (ct_mk_X1 l updE_s) ⟨by decide, by decide⟩ rfl (Nat.le_of_ble_eq_true rfl) (by constructor <;> first | decide | (dsimp only; omega)) rfl dX3_init_30 ?_
        rintro ⟨w4, n4⟩ ⟨hn4, ho4, hC4⟩
        dsimp only at hn4 ho4 hC4 ⊢
        subst hn4
        refine n_aast (pc := 33) C (i := b + 1) (i2 := b + 2 + 33 * j) (t0 := 5) (ci := 1) (r := (RX1, TX1, 7)) (by omega) ((ho4 _ (by omega)).trans ((updE_o (by omega)).trans hfn)) rfl (by omega) hC4.1 rfl ⟨by omega, by omega⟩ (by decide) dX3_init_33 ?_
        refine v_iinc (pc := 34) C 0 [(1, .int (iI (((j : Nat) : Int) + 1))), (0, .ref (L.2.2 + b))] rfl (by decide) rfl dX3_init_34 ?_
        refine v_goto (pc := 37) C 15 (by decide) dX3_init_37 ?_
        refine n_widen (k := 1 + 33 * (j + 1)) (z := 6 + 185 * (j + 1)) (by omega) (by omega) (n_w rfl (show _ = b + 2 + 33 * (j + 1) by omega) (ih (j + 1) _ (by omega) (fun q hq => (updE_o (by omega)).trans ((ho4 _ (by omega)).trans ((updE_o (by omega)).trans (f1 q hq)))) ((updE_o (by omega)).trans ((ho4 _ (by omega)).trans ((updE_o (by omega)).trans (f2)))) (arP.up (R := fun q => b + 2 + 33 * q) hfq rfl) (fun q hq => ?_)))
        by_cases h2 : q = j
        · subst h2; exact hC4.of (fun a h1 h2 => updE_o (by omega))
        · exact (f4 q (by omega)).of (fun a h1 h2 => (updE_o (by omega)).trans ((ho4 _ (by omega)).trans ((updE_o (by omega)).trans (rfl))))
  show V p l e { frames := 3, cells := 199, slots := 1116, locals := 54 } s m ([.ref (L.2.2 + b)]).toArray below meth c 2 L (HN L w (b + 1)) 0 0 _ 0 [(0, .ref (L.2.2 + b))] []
  refine v_aload_n (pc := 0) C 0 rfl rfl dX3_init_0 ?_
  refine n_obj (pc := 1) C u_3_12 (by decide) (by decide) dX3_init_1 ?_
  refine v_aload_n (pc := 4) C 0 rfl rfl dX3_init_4 ?_
  refine v_bipush (pc := 5) C rfl dX3_init_5 ?_
  refine n_newq (pc := 7) C (t0 := 5) (cA := L.2.1 5) rfl X.2.2.2 u_3_13 (N := 6) ⟨by decide, by decide, by decide⟩ (by constructor <;> first | decide | (dsimp only; omega)) dX3_init_7 ?_
  refine n_putF (pc := 10) C hin (ci := 3) (N := 2) 0 (by omega) (by (repeat (first | assumption | exact updE_s | exact updE_s' (by omega) | refine (updE_o (by omega)).trans ?_))) rfl inlX3 tyX3_ok nmX3 (by decide) u_3_14 rfl rfl (tyX3_ok 0 (by decide)) rfl rfl (by exact Nat.le_of_ble_eq_true rfl) dX3_init_10 ?_
  refine v_iconst (pc := 13) C dX3_init_13 ?_
  refine v_istore_n (pc := 14) C [(1, .int (iI ((0 : Nat) : Int))), (0, .ref (L.2.2 + b))] rfl (by decide) rfl dX3_init_14 ?_
  exact h1 6 0 _ rfl (fun q hq => by (repeat (first | assumption | exact updE_s | exact updE_s' (by omega) | refine (updE_o (by omega)).trans ?_)); rfl) (by (repeat (first | assumption | exact updE_s | exact updE_s' (by omega) | refine (updE_o (by omega)).trans ?_))) ⟨_, by (repeat (first | assumption | exact updE_s | exact updE_s' (by omega) | refine (updE_o (by omega)).trans ?_)), fun q hq => absurd hq (by omega)⟩ (fun q hq => absurd hq (by omega))
def GB (L : Lay) (w : Nat → va_E) : Prop := w 0 = (.inr (6, [.ref (L.2.2 + 1), .ref (L.2.2 + 34), .ref (L.2.2 + 234), .ref (L.2.2 + 235), .ref (L.2.2 + 236), .ref (L.2.2 + 238)])) ∧ CF L w 1 ∧ w 34 = .inr (3, [.ref (L.2.2 + 35), .int (iI 0)]) ∧ arP L w 35 5 6 (fun q => 36 + 33 * q) 6 ∧ (∀ q, q < 6 → CF L w (36 + 33 * q)) ∧ w 235 = .inl (L.2.1 1, 2, .inl (fun _ => iI 0)) ∧ w 236 = .inr (5, [.ref (L.2.2 + 237), .int (iI 0)]) ∧ w 237 = .inl (L.2.1 0, 60, .inl (fun _ => iI 0)) ∧ w 238 = eB 0 1 1
theorem GB.of {L : Lay} {w w' : Nat → va_E} (h : GB L w) (e : ∀ q, q < 239 → q ≠ 234 → w' q = w q) : GB L w' := by
  obtain ⟨a1, a2, a3, a4, a5, a6, a7, a8, a9⟩ := h
  exact ⟨(e _ (by omega) (by omega)).trans a1, a2.of (fun q h1 h2 => e _ (by omega) (by omega)), (e _ (by omega) (by omega)).trans a3, a4.of (e _ (by omega) (by omega)), fun q hq => (a5 q hq).of (fun r h1 h2 => e _ (by omega) (by omega)), (e _ (by omega) (by omega)).trans a6, (e _ (by omega) (by omega)).trans a7, (e _ (by omega) (by omega)).trans a8, (e _ (by omega) (by omega)).trans a9⟩
theorem ct_mk_X6 (l : Launch) {L : Lay} {w : Nat → va_E} (he : w 0 = .inr (6, [.null, .null, .null, .null, .null, .null])) : Met l yX6_init (.code yX6_init cX6_init 2 none :: wsL_law) { frames := 4, cells := 304, slots := 1742, locals := 75 } (va_Pc [.ref (L.2.2 + 0)] (NS L w 1)) (va_Qv (fun x : WN => x.2 = 305 ∧ GB L x.1 ∧ arP L x.1 234 5 2 (fun q => 239 + 33 * q) 2 ∧ (∀ q, q < 2 → CF L x.1 (239 + 33 * q))) (fun x t => NS L x.1 x.2 t) (Af L)) 304 1742 (Af L) := by
  refine ct_mkN (by decide +kernel) rfl (Nat.le_of_ble_eq_true rfl) ?_
  intro p e s m below meth c C X hin hr hlk
  have h1 : ∀ (k j : Nat) (w3 : Nat → va_E), j + k = 2 → GB L w3 → arP L w3 234 5 2 (fun q => 239 + 33 * q) j → (∀ q, q < j → CF L w3 (239 + 33 * q)) → V p l e { frames := 4, cells := 304, slots := 1742, locals := 75 } s m ([.ref (L.2.2 + 0)]).toArray below meth c 2 L (HN L w3 (239 + 33 * j)) (238 + 33 * j) (1372 + 185 * j) (MQ below (va_Qv (fun x : WN => x.2 = 305 ∧ GB L x.1 ∧ arP L x.1 234 5 2 (fun q => 239 + 33 * q) 2 ∧ (∀ q, q < 2 → CF L x.1 (239 + 33 * q))) (fun x t => NS L x.1 x.2 t) (Af L)) ([.ref (L.2.2 + 0)]).toArray s 304 1742 (Af L)) 65 [(1, .int (iI ((j : Nat) : Int))), (0, .ref (L.2.2 + 0))] [] := by
    intro k
    induction k with
    | zero =>
      intro j w3 hj f1 f3 f4
      obtain rfl : j = 2 := by omega
      refine v_iload_n (pc := 65) C 0 rfl rfl dX6_init_65 ?_
      refine v_iconst (pc := 66) C dX6_init_66 ?_
      refine v_icmp_ge (pc := 67) C 89 ⟨by omega, by omega⟩ ⟨by omega, by omega⟩ (by decide) dX6_init_67 (fun h => ?_) (fun h => ?_)
      · exact n_vret (pc := 89) C X hr hlk ⟨rfl, f1, f3, f4⟩ dX6_init_89
      · exact absurd h (by omega)
    | succ k ih =>
      intro j w3 hj f1 f3 f4
      refine v_iload_n (pc := 65) C 0 rfl rfl dX6_init_65 ?_
      refine v_iconst (pc := 66) C dX6_init_66 ?_
      refine v_icmp_ge (pc := 67) C 89 ⟨by omega, by omega⟩ ⟨by omega, by omega⟩ (by decide) dX6_init_67 (fun h => ?_) (fun h => ?_)
      · exact absurd h (by omega)
      · obtain ⟨fn, hfn, hfq⟩ := f3
        have f5 := f1.1
        refine v_aload_n (pc := 70) C 1 rfl rfl dX6_init_70 ?_
        refine n_get (pc := 71) C (ci := 6) (N := 6) 2 (by omega) (by (repeat (first | assumption | exact updE_s | exact updE_s' (by omega) | refine (updE_o (by omega)).trans ?_))) rfl inlX6 (by decide) u_1_18 rfl rfl dX6_init_71 ?_
        refine v_iload_n (pc := 74) C 0 rfl rfl dX6_init_74 ?_
        refine n_new (pc := 75) C (ci := 1) inlX1 tyX1 (tyX1_ok) u_1_10 u_1_11 u_1_12 rfl (fs := [.int (iI 0), .int (iI 0), .int (iI 0), .null, .null, .null, .null]) dvX1 (by constructor <;> first | decide | (dsimp only; omega)) dX6_init_75 ?_
        refine v_dup (pc := 78) C rfl dX6_init_78 ?_
        refine n_call (pc := 79) C X (i := 239 + 33 * j) (As := []) ⟨u_2_5, u_2_6, u_1_12, u_2_7⟩ ⟨by decide, by decide, by decide, rfl⟩ (ct_mk_X1 l updE_s) ⟨by decide, by decide⟩ rfl (Nat.le_of_ble_eq_true rfl) (by constructor <;> first | decide | (dsimp only; omega)) rfl dX6_init_79 ?_
        rintro ⟨w4, n4⟩ ⟨hn4, ho4, hC4⟩
        dsimp only at hn4 ho4 hC4 ⊢
        subst hn4
        refine n_aast (pc := 82) C (i := 234) (i2 := 239 + 33 * j) (t0 := 5) (ci := 1) (r := (RX1, TX1, 7)) (by omega) ((ho4 _ (by omega)).trans ((updE_o (by omega)).trans hfn)) rfl (by omega) hC4.1 rfl ⟨by omega, by omega⟩ (by decide) dX6_init_82 ?_
        refine v_iinc (pc := 83) C 0 [(1, .int (iI (((j : Nat) : Int) + 1))), (0, .ref (L.2.2 + 0))] rfl (by decide) rfl dX6_init_83 ?_
        refine v_goto (pc := 86) C 65 (by decide) dX6_init_86 ?_
        refine n_widen (k := 238 + 33 * (j + 1)) (z := 1372 + 185 * (j + 1)) (by omega) (by omega) (n_w rfl (show _ = 239 + 33 * (j + 1) by omega) (ih (j + 1) _ (by omega) (f1.of (fun q h1 h2 => (updE_o (by omega)).trans ((ho4 _ (by omega)).trans ((updE_o (by omega)).trans (rfl))))) (arP.up (R := fun q => 239 + 33 * q) hfq rfl) (fun q hq => ?_)))
        by_cases h2 : q = j
        · subst h2; exact hC4.of (fun a h1 h2 => updE_o (by omega))
        · exact (f4 q (by omega)).of (fun a h1 h2 => (updE_o (by omega)).trans ((ho4 _ (by omega)).trans ((updE_o (by omega)).trans (rfl))))
  show V p l e { frames := 4, cells := 304, slots := 1742, locals := 75 } s m ([.ref (L.2.2 + 0)]).toArray below meth c 2 L (HN L w 1) 0 0 _ 0 [(0, .ref (L.2.2 + 0))] []
  refine v_aload_n (pc := 0) C 0 rfl rfl dX6_init_0 ?_
  refine n_obj (pc := 1) C u_1_7 (by decide) (by decide) dX6_init_1 ?_
  refine v_aload_n (pc := 4) C 0 rfl rfl dX6_init_4 ?_
  refine n_new (pc := 5) C (ci := 1) inlX1 tyX1 (tyX1_ok) u_1_10 u_1_11 u_1_12 rfl (fs := [.int (iI 0), .int (iI 0), .int (iI 0), .null, .null, .null, .null]) dvX1 (by constructor <;> first | decide | (dsimp only; omega)) dX6_init_5 ?_
  refine v_dup (pc := 8) C rfl dX6_init_8 ?_
  refine n_call (pc := 9) C X (i := 1) (As := []) ⟨u_2_5, u_2_6, u_1_12, u_2_7⟩ ⟨by decide, by decide, by decide, rfl⟩ (ct_mk_X1 l updE_s) ⟨by decide, by decide⟩ rfl (Nat.le_of_ble_eq_true rfl) (by constructor <;> first | decide | (dsimp only; omega)) rfl dX6_init_9 ?_
  rintro ⟨w1, n1⟩ ⟨hn1, ho1, hC1⟩
  dsimp only at hn1 ho1 hC1 ⊢
  subst hn1
  have g0 := (ho1 0 (by omega)).trans ((updE_o (by omega)).trans he)
  clear ho1
  refine n_putF (pc := 12) C hin (ci := 6) (N := 6) 0 (by omega) (by (repeat (first | assumption | exact updE_s | exact updE_s' (by omega) | refine (updE_o (by omega)).trans ?_))) rfl inlX6 tyX6_ok nmX6 (by decide) u_1_13 rfl rfl (tyX6_ok 0 (by decide)) rfl rfl (by exact Nat.le_of_ble_eq_true rfl) dX6_init_12 ?_
  refine v_aload_n (pc := 15) C 0 rfl rfl dX6_init_15 ?_
  refine n_new (pc := 16) C (ci := 3) inlX3 tyX3 (tyX3_ok) u_1_14 u_1_15 u_1_16 rfl (fs := [.null, .int (iI 0)]) dvX3 (by constructor <;> first | decide | (dsimp only; omega)) dX6_init_16 ?_
  refine v_dup (pc := 19) C rfl dX6_init_19 ?_
  refine n_call (pc := 20) C X (i := 34) (As := []) ⟨u_3_9, u_3_10, u_1_16, u_3_11⟩ ⟨by decide, by decide, by decide, rfl⟩ (ct_mk_X3 l updE_s) ⟨by decide, by decide⟩ rfl (Nat.le_of_ble_eq_true rfl) (by constructor <;> first | decide | (dsimp only; omega)) rfl dX6_init_20 ?_
  rintro ⟨w2, n2⟩ ⟨hn2, ho2, hH1, hH2, hH3⟩
  dsimp only at hn2 ho2 hH1 hH2 hH3 ⊢
  subst hn2
  have g1 := (ho2 0 (by omega)).trans ((updE_o (by omega)).trans updE_s)
  have g2 : CF L w2 1 := hC1.of (fun q h1 h2 => (ho2 q (by omega)).trans ((updE_o (by omega)).trans (updE_o (by omega))))
  clear ho2 hC1 g0
  refine n_putF (pc := 23) C hin (ci := 6) (N := 6) 1 (by omega) (by (repeat (first | assumption | exact updE_s | exact updE_s' (by omega) | refine (updE_o (by omega)).trans ?_))) rfl inlX6 tyX6_ok nmX6 (by decide) u_1_17 rfl rfl (tyX6_ok 1 (by decide)) rfl rfl (by exact Nat.le_of_ble_eq_true rfl) dX6_init_23 ?_
  refine v_aload_n (pc := 26) C 0 rfl rfl dX6_init_26 ?_
  refine v_iconst (pc := 27) C dX6_init_27 ?_
  refine n_newq (pc := 28) C (t0 := 5) (cA := L.2.1 5) rfl X.2.2.2 u_1_10 (N := 2) ⟨by decide, by decide, by decide⟩ (by constructor <;> first | decide | (dsimp only; omega)) dX6_init_28 ?_
  refine n_putF (pc := 31) C hin (ci := 6) (N := 6) 2 (by omega) (by (repeat (first | assumption | exact updE_s | exact updE_s' (by omega) | refine (updE_o (by omega)).trans ?_))) rfl inlX6 tyX6_ok nmX6 (by decide) u_1_18 rfl rfl (tyX6_ok 2 (by decide)) rfl rfl (by exact Nat.le_of_ble_eq_true rfl) dX6_init_31 ?_
  refine v_aload_n (pc := 34) C 0 rfl rfl dX6_init_34 ?_
  refine v_iconst (pc := 35) C dX6_init_35 ?_
  refine n_newa (pc := 36) C (ty := .boolean) (cA := L.2.1 1) 1 rfl rfl (fun h => h) u_1_19 (N := 2) (a0 := (2, .inl (fun _ => iI 0))) rfl ⟨by decide, by decide, by decide⟩ (by decide) (by constructor <;> first | decide | (dsimp only; omega)) dX6_init_36 ?_
  refine n_putF (pc := 38) C hin (ci := 6) (N := 6) 3 (by omega) (by (repeat (first | assumption | exact updE_s | exact updE_s' (by omega) | refine (updE_o (by omega)).trans ?_))) rfl inlX6 tyX6_ok nmX6 (by decide) u_1_20 rfl rfl (tyX6_ok 3 (by decide)) rfl rfl (by exact Nat.le_of_ble_eq_true rfl) dX6_init_38 ?_
  refine v_aload_n (pc := 41) C 0 rfl rfl dX6_init_41 ?_
  refine n_new (pc := 42) C (ci := 5) inlX5 tyX5 (tyX5_ok) u_1_21 u_1_22 u_1_23 rfl (fs := [.null, .int (iI 0)]) dvX5 (by constructor <;> first | decide | (dsimp only; omega)) dX6_init_42 ?_
  refine v_dup (pc := 45) C rfl dX6_init_45 ?_
  refine n_callN (pc := 46) C X (i := 236) (As := []) X.1.2.2.1 ⟨u_3_16, u_1_23, u_3_17⟩ ⟨by decide, by decide, by decide, rfl⟩ (ct_mk_X5 l (by omega) updE_s) ⟨by decide, by decide⟩ rfl (Nat.le_of_ble_eq_true rfl) (by constructor <;> first | decide | (dsimp only; omega)) rfl dX6_init_46 ?_
  rintro ⟨w3, n3⟩ ⟨hn3, ho3, hT1, hT2⟩
  dsimp only at hn3 ho3 hT1 hT2 ⊢
  subst hn3
  have k0 : w3 0 = .inr (6, [.ref (L.2.2 + 1), .ref (L.2.2 + 34), .ref (L.2.2 + 234), .ref (L.2.2 + 235), .null, .null]) := (ho3 0 (by omega) (by omega)).trans (by (repeat (first | assumption | exact updE_s | exact updE_s' (by omega) | refine (updE_o (by omega)).trans ?_)))
  have k1 : ∀ q, 1 ≤ q → q < 234 → w3 q = w2 q := fun q h1 h2 => (ho3 q (by omega) (by omega)).trans (by (repeat (first | assumption | exact updE_s | exact updE_s' (by omega) | refine (updE_o (by omega)).trans ?_)); rfl)
  have k2 : w3 234 = .inl (L.2.1 5, 2, .inr (.inr (.inr (.inr (fun _ => none))))) := (ho3 234 (by omega) (by omega)).trans (by (repeat (first | assumption | exact updE_s | exact updE_s' (by omega) | refine (updE_o (by omega)).trans ?_)))
  have k3 : w3 235 = .inl (L.2.1 1, 2, .inl (fun _ => iI 0)) := (ho3 235 (by omega) (by omega)).trans (by (repeat (first | assumption | exact updE_s | exact updE_s' (by omega) | refine (updE_o (by omega)).trans ?_)))
  clear ho3
  refine n_putF (pc := 49) C hin (ci := 6) (N := 6) 4 (by omega) (by (repeat (first | assumption | exact updE_s | exact updE_s' (by omega) | refine (updE_o (by omega)).trans ?_))) rfl inlX6 tyX6_ok nmX6 (by decide) u_2_0 rfl rfl (tyX6_ok 4 (by decide)) rfl rfl (by exact Nat.le_of_ble_eq_true rfl) dX6_init_49 ?_
  refine v_aload_n (pc := 52) C 0 rfl rfl dX6_init_52 ?_
  refine n_new (pc := 53) C (ci := 0) inlX0 tyX0 (tyX0_ok) u_2_1 u_2_2 u_2_3 rfl (fs := [.int (iI 0), .int (iI 0), .int (iI 0)]) dvX0 (by constructor <;> first | decide | (dsimp only; omega)) dX6_init_53 ?_
  refine v_dup (pc := 56) C rfl dX6_init_56 ?_
  refine n_callN (pc := 57) C X (i := 238) (As := []) X.1.2.2.2.1 ⟨u_2_20, u_2_3, u_2_21⟩ ⟨by decide, by decide, by decide, rfl⟩ (ct_mk_X0 l (by omega) updE_s) ⟨by decide, by decide⟩ rfl (Nat.le_of_ble_eq_true rfl) (by constructor <;> first | decide | (dsimp only; omega)) rfl dX6_init_57 ?_
  rintro ⟨w5, n5⟩ ⟨hn5, ho5, hB5⟩
  dsimp only at hn5 ho5 hB5 ⊢
  subst hn5
  have m0 : w5 0 = .inr (6, [.ref (L.2.2 + 1), .ref (L.2.2 + 34), .ref (L.2.2 + 234), .ref (L.2.2 + 235), .ref (L.2.2 + 236), .null]) := (ho5 0 (by omega)).trans (by (repeat (first | assumption | exact updE_s | exact updE_s' (by omega) | refine (updE_o (by omega)).trans ?_)))
  have m1 : ∀ q, 1 ≤ q → q < 238 → w5 q = w3 q := fun q h1 h2 => (ho5 q (by omega)).trans (by (repeat (first | assumption | exact updE_s | exact updE_s' (by omega) | refine (updE_o (by omega)).trans ?_)); rfl)
  clear ho5
  refine n_putF (pc := 60) C hin (ci := 6) (N := 6) 5 (by omega) (by (repeat (first | assumption | exact updE_s | exact updE_s' (by omega) | refine (updE_o (by omega)).trans ?_))) rfl inlX6 tyX6_ok nmX6 (by decide) u_2_4 rfl rfl (tyX6_ok 5 (by decide)) rfl rfl (by exact Nat.le_of_ble_eq_true rfl) dX6_init_60 ?_
  refine v_iconst (pc := 63) C dX6_init_63 ?_
  refine v_istore_n (pc := 64) C [(1, .int (iI ((0 : Nat) : Int))), (0, .ref (L.2.2 + 0))] rfl (by decide) rfl dX6_init_64 ?_
  have z1 : ∀ q, 1 ≤ q → q < 234 → updE w5 0 (.inr (6, [.ref (L.2.2 + 1), .ref (L.2.2 + 34), .ref (L.2.2 + 234), .ref (L.2.2 + 235), .ref (L.2.2 + 236), .ref (L.2.2 + 238)])) q = w2 q := fun q h1 h2 => (updE_o (by omega)).trans ((m1 q h1 (by omega)).trans (k1 q h1 h2))
  have z2 : ∀ q, 1 ≤ q → q < 238 → updE w5 0 (.inr (6, [.ref (L.2.2 + 1), .ref (L.2.2 + 34), .ref (L.2.2 + 234), .ref (L.2.2 + 235), .ref (L.2.2 + 236), .ref (L.2.2 + 238)])) q = w3 q := fun q h1 h2 => (updE_o (by omega)).trans (m1 q h1 h2)
  exact h1 2 0 (updE w5 0 (.inr (6, [.ref (L.2.2 + 1), .ref (L.2.2 + 34), .ref (L.2.2 + 234), .ref (L.2.2 + 235), .ref (L.2.2 + 236), .ref (L.2.2 + 238)]))) rfl ⟨updE_s, g2.of (fun q h1 h2 => z1 q h1 (by omega)), (z1 34 (by omega) (by omega)).trans hH1, hH2.of (z1 35 (by omega) (by omega)), fun q hq => (hH3 q hq).of (fun r h1 h2 => z1 r (by omega) (by omega)), (z2 235 (by omega) (by omega)).trans k3, (z2 236 (by omega) (by omega)).trans hT1, (z2 237 (by omega) (by omega)).trans hT2, (updE_o (by omega)).trans hB5⟩ ⟨_, (z2 234 (by omega) (by omega)).trans k2, fun q hq => absurd hq (by omega)⟩ (fun q hq => absurd hq (by omega))
