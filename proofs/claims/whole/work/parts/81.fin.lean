/-! from the law's entry to its end -/
theorem whole_start {p : Program} {e : Env} {s : State} {m : MethodId} {below : List Frame} {meth : Method} {c : Code} (l : Launch) (hflags : l.flags = flags0) {b L : Nat} {xs : Nat → Int32} (hL : L ≤ 2048) (C0 : lw_At p s m meth c b L xs) : W p l e room_1 s m #[Value.ref b] below meth c s.heap [] 0 0 (lw_Z below #[Value.ref b] s) (entryFrame m ([Value.ref b] : List Value).toArray 9) := by
  obtain ⟨hx, hbd, hret, hml, hown, hts, hX, hb, hlk, hgv⟩ := C0
  obtain ⟨Ly, hLy, hK⟩ := st_K hts
  have hSm : Sm Ly s := ⟨hK, st_T hts hgv hLy, Nat.le_of_eq hLy⟩
  have C : Cx p s m #[Value.ref b] c cL_law 9 RL Ly := ⟨hx, hbd, hml, hown, fun w h => hts w (tb_in w h), hSm⟩
  have X := st_X hts
  have hbA : ¬ Af Ly b := fun h => by
    have h3 : Ly.2.2 ≤ b := h
    omega
  have hI0 : HN Ly (fun _ => .inl (0, 0, .inl (fun _ => 0))) 0 s.heap := ⟨by omega, fun k q hq => absurd (wsN_in hq).1 (Nat.not_lt_zero _)⟩
  have K : V p l e room_1 s m #[Value.ref b] below meth c 9 Ly (HN Ly (fun _ => .inl (0, 0, .inl (fun _ => 0))) 0) 0 0 (lw_Z below #[Value.ref b] s) 0 [(0, .ref b)] [] := by
    refine n_new (pc := 0) C (ci := 6) inlX6 tyX6 (tyX6_ok) u_1_0 u_1_1 u_1_2 rfl (fs := [.null, .null, .null, .null, .null, .null]) dvX6 ⟨by decide, by decide⟩ dL_law_0 ?_
    refine v_dup (pc := 3) C rfl dL_law_3 ?_
    refine n_call (pc := 4) C X (i := 0) (As := []) ⟨u_1_7, u_1_8, u_1_2, u_1_9⟩ ⟨by decide, by decide, by decide, rfl⟩ (ct_mk_X6 l updE_s) ⟨by decide, by decide⟩ rfl (Nat.le_of_ble_eq_true rfl) ⟨by decide, by decide⟩ rfl dL_law_4 ?_
    rintro ⟨w1, n1⟩ ⟨hn1, hG1, hS1, hC1⟩
    dsimp only at hn1 hG1 hS1 hC1 ⊢
    subst hn1
    refine v_astore_n (pc := 7) C [(1, .ref (Ly.2.2 + 0)), (0, .ref b)] rfl (by decide) rfl dL_law_7 ?_
    refine n_new (pc := 8) C (ci := 7) inlX7 tyX7 (tyX7_ok) u_1_3 u_1_4 u_1_5 rfl (fs := [.int (iI 0), .null, .null, .int (iI 0), .null, .null, .null, .int (iI 0), .int (iI 0), .int (iI 0), .int (iI 0), .int (iI 0), .int (iI 0), .int (iI 0), .long (lI 0)]) dvX7 ⟨by decide, by decide⟩ dL_law_8 ?_
    refine v_dup (pc := 11) C rfl dL_law_11 ?_
    refine n_call (pc := 12) C X (i := 305) (As := []) ⟨u_4_0, u_4_1, u_1_5, u_4_2⟩ ⟨by decide, by decide, by decide, rfl⟩ (ct_mk_X7 l updE_s) ⟨by decide, by decide⟩ rfl (Nat.le_of_ble_eq_true rfl) ⟨by decide, by decide⟩ rfl dL_law_12 ?_
    rintro ⟨w2, n2⟩ ⟨hn2, hG2, hI2⟩
    dsimp only at hn2 hG2 hI2 ⊢
    subst hn2
    refine v_astore_n (pc := 15) C [(2, .ref (Ly.2.2 + 305)), (1, .ref (Ly.2.2 + 0)), (0, .ref b)] rfl (by decide) rfl dL_law_15 ?_
    refine v_iconst (pc := 16) C dL_law_16 ?_
    refine n_newa (pc := 17) C (ty := .long) (cA := Ly.2.1 2) 2 rfl rfl (fun h => va_nm_long h) u_1_6 (N := 1) (a0 := (1, .inr (.inl (fun _ => lI 0)))) rfl ⟨by decide, by decide, by decide⟩ (by decide) ⟨by decide, by decide⟩ dL_law_17 ?_
    refine v_astore_n (pc := 19) C [(3, .ref (Ly.2.2 + 311)), (2, .ref (Ly.2.2 + 305)), (1, .ref (Ly.2.2 + 0)), (0, .ref b)] rfl (by decide) rfl dL_law_19 ?_
    refine v_iconst (pc := 20) C dL_law_20 ?_
    refine v_istore (pc := 21) C [(4, .int (iI 0)), (3, .ref (Ly.2.2 + 311)), (2, .ref (Ly.2.2 + 305)), (1, .ref (Ly.2.2 + 0)), (0, .ref b)] (by decide) rfl dL_law_21 ?_
    have hW0 : W0 Ly (updE w2 311 (.inl (Ly.2.1 2, 1, .inr (.inl (fun _ => lI 0))))) := by
      have e1 : ∀ q, q < 305 → updE w2 311 (.inl (Ly.2.1 2, 1, .inr (.inl (fun _ => lI 0)))) q = w1 q := fun q hq => (updE_o (by omega)).trans ((hG2.1 q hq).trans (updE_o (by omega)))
      refine ⟨hG1.of (fun q h1 h2 => e1 q (by omega)), hS1.of (e1 _ (by omega)), fun q hq => (hC1 q hq).of (fun a h1 h2 => e1 a (by omega)), ⟨_, hG2.of (fun q h1 h2 => updE_o (by omega))⟩, hI2.of (updE_o (by omega)), updE_s⟩
    have kret : ∀ (v : St) (i : Int) (cs ss : Nat), cs ≤ 622385 → ss ≤ 7228948 → V p l e room_1 s m #[Value.ref b] below meth c 9 Ly (HH Ly v) cs ss (lw_Z below #[Value.ref b] s) 1381 [(0, .ref b), (1, .ref (adr Ly 0 0 0)), (2, .ref (adr Ly 14 0 0)), (3, .ref (adr Ly 20 0 0)), (4, .int (iI i))] [] := by
      intro v i cs ss hcs hss
      refine v_iconst (pc := 1381) C dL_law_1381 ?_
      intro H locs ls hI hS hl
      refine W.widen hcs hss ?_
      refine va_forget (fun q hq => by have h3 : Ly.2.2 ≤ q.base := hS.2.2 q hq; omega) ?_
      exact lw_ret (d0 := s.drawn) (Drawn.sameBut.refl s.drawn lw_cs) hx hbd hret hlk dL_law_1382
    have kl := lw_loop (e := e) (below := below) (meth := meth) (Q := lw_Z below #[Value.ref b] s) hflags C hX hb hbA hL kret 513 0 g0 rfl INV_g0
    exact fun H locs ls hI hS hl => kl H locs ls (HH_g0 hI hW0) hS (lv_sub hl [4, 3, 2, 1, 0] rfl)
  rw [lg_entry_eq]
  exact K s.heap [] _ hI0 va_S.rf (lv_entry [Value.ref b] (n := 9) (Nat.le_of_ble_eq_true rfl))
