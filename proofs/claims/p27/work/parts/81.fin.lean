/-! from the law's entry to its end -/
theorem whole_start {p : Program} {e : Env} {s : State} {m : MethodId} {below : List Frame} {meth : Method} {c : Code} (l : Launch) (hflags : l.flags = flags0) {b L : Nat} {xs : Nat → Int32} (hL : L ≤ 260) (C0 : lw_At p s m meth c b L xs) : W p l e room_1 s m #[Value.ref b] below meth c s.heap [] 0 0 (lw_Z below #[Value.ref b] s) (entryFrame m ([Value.ref b] : List Value).toArray 16) := by
  obtain ⟨hx, hbd, hret, hml, hown, hts, hX, hb, hlk, hgv⟩ := C0
  obtain ⟨Ly, hLy, h0, hK⟩ := st_K hts
  have hSm : Sm Ly s := ⟨hK, st_T hts hgv hLy, Nat.le_of_eq hLy⟩
  have C : Cx p s m #[Value.ref b] c cL_law 16 RL Ly := ⟨hx, hbd, hml, hown, fun w h => hts w (tb_in w h), hSm⟩
  have X := st_X hts
  have hbA : ¬ Af Ly b := fun h => by
    have h3 : Ly.2.2 ≤ b := h
    omega
  have hI0 : HN Ly (fun _ => .inl (0, 0, .inl (fun _ => 0))) 0 s.heap := ⟨by omega, fun k q hq => absurd (wsN_in hq).1 (Nat.not_lt_zero _)⟩
  have K : V p l e room_1 s m #[Value.ref b] below meth c 16 Ly (HN Ly (fun _ => .inl (0, 0, .inl (fun _ => 0))) 0) 0 0 (lw_Z below #[Value.ref b] s) 0 [(0, .ref b)] [] := by
    refine n_new (pc := 0) C (ci := 6) inlX6 tyX6 (tyX6_ok) u_1_0 u_1_1 u_1_2 rfl (fs := [.null, .null, .null, .null, .null, .null]) dvX6 ⟨by decide, by decide⟩ dL_law_0 ?_
    refine v_dup (pc := 3) C rfl dL_law_3 ?_
    refine n_call (pc := 4) C X (i := 0) (As := []) ⟨u_1_4, u_1_5, u_1_2, u_1_6⟩ ⟨by decide, by decide, by decide, rfl⟩ (ct_mk_X6 l updE_s) ⟨by decide, by decide⟩ rfl (Nat.le_of_ble_eq_true rfl) ⟨by decide, by decide⟩ rfl dL_law_4 ?_
    rintro ⟨w1, n1⟩ ⟨hn1, hG1, hS1, hC1⟩
    dsimp only at hn1 hG1 hS1 hC1 ⊢
    subst hn1
    refine v_astore_n (pc := 7) C [(1, .ref (Ly.2.2 + 0)), (0, .ref b)] rfl (by decide) rfl dL_law_7 ?_
    refine v_bipush (pc := 8) C rfl dL_law_8 ?_
    refine n_newa (pc := 10) C (ty := .int) (cA := Ly.2.1 0) 0 rfl rfl (fun h => va_nm_int h) u_1_3 (N := 10) (a0 := (10, .inl (fun _ => iI 0))) rfl ⟨by decide, by decide, by decide⟩ (by decide) ⟨by decide, by decide⟩ dL_law_10 ?_
    refine v_astore_n (pc := 12) C [(2, .ref (Ly.2.2 + 305)), (1, .ref (Ly.2.2 + 0)), (0, .ref b)] rfl (by decide) rfl dL_law_12 ?_
    refine v_bipush (pc := 13) C rfl dL_law_13 ?_
    refine n_newa (pc := 15) C (ty := .int) (cA := Ly.2.1 0) 0 rfl rfl (fun h => va_nm_int h) u_1_3 (N := 24) (a0 := (24, .inl (fun _ => iI 0))) rfl ⟨by decide, by decide, by decide⟩ (by decide) ⟨by decide, by decide⟩ dL_law_15 ?_
    refine v_astore_n (pc := 17) C [(3, .ref (Ly.2.2 + 306)), (2, .ref (Ly.2.2 + 305)), (1, .ref (Ly.2.2 + 0)), (0, .ref b)] rfl (by decide) rfl dL_law_17 ?_
    refine v_bipush (pc := 18) C rfl dL_law_18 ?_
    refine n_newa (pc := 20) C (ty := .int) (cA := Ly.2.1 0) 0 rfl rfl (fun h => va_nm_int h) u_1_3 (N := 24) (a0 := (24, .inl (fun _ => iI 0))) rfl ⟨by decide, by decide, by decide⟩ (by decide) ⟨by decide, by decide⟩ dL_law_20 ?_
    refine v_astore (pc := 22) C [(4, .ref (Ly.2.2 + 307)), (3, .ref (Ly.2.2 + 306)), (2, .ref (Ly.2.2 + 305)), (1, .ref (Ly.2.2 + 0)), (0, .ref b)] (by decide) rfl dL_law_22 ?_
    refine v_bipush (pc := 24) C rfl dL_law_24 ?_
    refine n_newa (pc := 26) C (ty := .int) (cA := Ly.2.1 0) 0 rfl rfl (fun h => va_nm_int h) u_1_3 (N := 24) (a0 := (24, .inl (fun _ => iI 0))) rfl ⟨by decide, by decide, by decide⟩ (by decide) ⟨by decide, by decide⟩ dL_law_26 ?_
    refine v_astore (pc := 28) C [(5, .ref (Ly.2.2 + 308)), (4, .ref (Ly.2.2 + 307)), (3, .ref (Ly.2.2 + 306)), (2, .ref (Ly.2.2 + 305)), (1, .ref (Ly.2.2 + 0)), (0, .ref b)] (by decide) rfl dL_law_28 ?_
    have hW0 : W0 Ly (updE (updE (updE (updE w1 305 (.inl (Ly.2.1 0, 10, .inl (fun _ => iI 0)))) 306 (.inl (Ly.2.1 0, 24, .inl (fun _ => iI 0)))) 307 (.inl (Ly.2.1 0, 24, .inl (fun _ => iI 0)))) 308 (.inl (Ly.2.1 0, 24, .inl (fun _ => iI 0)))) := by
      have e1 : ∀ q, q < 305 → updE (updE (updE (updE w1 305 (.inl (Ly.2.1 0, 10, .inl (fun _ => iI 0)))) 306 (.inl (Ly.2.1 0, 24, .inl (fun _ => iI 0)))) 307 (.inl (Ly.2.1 0, 24, .inl (fun _ => iI 0)))) 308 (.inl (Ly.2.1 0, 24, .inl (fun _ => iI 0))) q = w1 q := fun q hq => (updE_o (by omega)).trans ((updE_o (by omega)).trans ((updE_o (by omega)).trans (updE_o (by omega))))
      exact ⟨hG1.of (fun q h1 h2 => e1 q (by omega)), hS1.of (e1 _ (by omega)), fun q hq => (hC1 q hq).of (fun a h1 h2 => e1 a (by omega)), (updE_o (by omega)).trans ((updE_o (by omega)).trans ((updE_o (by omega)).trans updE_s)), (updE_o (by omega)).trans ((updE_o (by omega)).trans updE_s), (updE_o (by omega)).trans updE_s, updE_s⟩
    have kret : ∀ (v : St) (cs ss : Nat) (i : Int), cs ≤ 714495 → ss ≤ 6957984 → V p l e room_1 s m #[Value.ref b] below meth c 16 Ly (HH Ly v) cs ss (lw_Z below #[Value.ref b] s) 577 [(0, .ref b), (1, .ref (adr Ly 0 0 0)), (2, .ref (adr Ly 14 0 0)), (3, .ref (adr Ly 15 0 0)), (4, .ref (adr Ly 16 0 0)), (5, .ref (adr Ly 17 0 0)), (6, .int (iI i))] [] := by
      intro v cs ss i hcs hss
      refine v_iconst (pc := 577) C dL_law_577 ?_
      intro H locs ls hI hS hl
      refine W.widen hcs hss ?_
      refine va_forget (fun q hq => by have h3 : Ly.2.2 ≤ q.base := hS.2.2 q hq; omega) ?_
      exact lw_ret (d0 := s.drawn) (Drawn.sameBut.refl s.drawn lw_cs) hx hbd hret hlk dL_law_578
    have kl := lw_loop (e := e) (below := below) (meth := meth) (Q := lw_Z below #[Value.ref b] s) hflags C h0 hX hb hbA hL kret 40 0 g1 (0 + 1 + 304 + 1 + 1 + 1 + 1) (0 + 6 + 1742 + 10 + 24 + 24 + 24) (by decide) J_g1 (by decide) (by decide)
    have kw : V p l e room_1 s m #[Value.ref b] below meth c 16 Ly (HH Ly g0) (0 + 1 + 304 + 1 + 1 + 1 + 1) (0 + 6 + 1742 + 10 + 24 + 24 + 24) (lw_Z below #[Value.ref b] s) 30 [(5, .ref (adr Ly 17 0 0)), (4, .ref (adr Ly 16 0 0)), (3, .ref (adr Ly 15 0 0)), (2, .ref (adr Ly 14 0 0)), (1, .ref (adr Ly 0 0 0)), (0, .ref b)] [] := by
      refine v_aload_n (pc := 30) C 3 rfl rfl dL_law_30 ?_
      refine v_iconst (pc := 31) C dL_law_31 ?_
      refine v_bipush (pc := 32) C rfl dL_law_32 ?_
      refine as_14 (pc := 34) C ⟨by decide, by decide⟩ dL_law_34 ?_
      refine v_aload_n (pc := 35) C 3 rfl rfl dL_law_35 ?_
      refine v_iconst (pc := 36) C dL_law_36 ?_
      refine v_iconst (pc := 37) C dL_law_37 ?_
      refine as_14 (pc := 38) C ⟨by decide, by decide⟩ dL_law_38 ?_
      refine v_aload_n (pc := 39) C 3 rfl rfl dL_law_39 ?_
      refine v_iconst (pc := 40) C dL_law_40 ?_
      refine v_iconst (pc := 41) C dL_law_41 ?_
      refine as_14 (pc := 42) C ⟨by decide, by decide⟩ dL_law_42 ?_
      refine v_aload_n (pc := 43) C 3 rfl rfl dL_law_43 ?_
      refine v_iconst (pc := 44) C dL_law_44 ?_
      refine v_iconst (pc := 45) C dL_law_45 ?_
      refine as_14 (pc := 46) C ⟨by decide, by decide⟩ dL_law_46 ?_
      refine v_aload_n (pc := 47) C 3 rfl rfl dL_law_47 ?_
      refine v_bipush (pc := 48) C rfl dL_law_48 ?_
      refine v_iconst (pc := 50) C dL_law_50 ?_
      refine as_14 (pc := 51) C ⟨by decide, by decide⟩ dL_law_51 ?_
      refine v_iconst (pc := 52) C dL_law_52 ?_
      refine v_istore (pc := 53) C [(6, .int (iI 0)), (5, .ref (adr Ly 17 0 0)), (4, .ref (adr Ly 16 0 0)), (3, .ref (adr Ly 15 0 0)), (2, .ref (adr Ly 14 0 0)), (1, .ref (adr Ly 0 0 0)), (0, .ref b)] (by decide) rfl dL_law_53 ?_
      refine v_iload (pc := 55) C 0 rfl dL_law_55 ?_
      refine v_iconst (pc := 57) C dL_law_57 ?_
      refine v_icmp_ge (pc := 58) C 80 (by decide) (by decide) (by decide) dL_law_58 (fun h => ?_) (fun h => ?_)
      · exact absurd h (by decide)
      refine v_aload_n (pc := 61) C 3 rfl rfl dL_law_61 ?_
      refine v_bipush (pc := 62) C rfl dL_law_62 ?_
      refine v_iload (pc := 64) C 0 rfl dL_law_64 ?_
      refine v_imul (pc := 66) C dL_law_66 ?_
      refine v_iconst (pc := 67) C dL_law_67 ?_
      refine v_iload (pc := 68) C 0 rfl dL_law_68 ?_
      refine v_imul (pc := 70) C dL_law_70 ?_
      refine v_iconst (pc := 71) C dL_law_71 ?_
      refine v_iadd (pc := 72) C dL_law_72 ?_
      refine as_15 (pc := 73) C ⟨by decide, by decide⟩ dL_law_73 ?_
      refine v_iinc (pc := 74) C 0 [(6, .int (iI 1)), (5, .ref (adr Ly 17 0 0)), (4, .ref (adr Ly 16 0 0)), (3, .ref (adr Ly 15 0 0)), (2, .ref (adr Ly 14 0 0)), (1, .ref (adr Ly 0 0 0)), (0, .ref b)] rfl (by decide) rfl dL_law_74 ?_
      refine v_goto (pc := 77) C 55 (by decide) dL_law_77 ?_
      refine v_iload (pc := 55) C 0 rfl dL_law_55 ?_
      refine v_iconst (pc := 57) C dL_law_57 ?_
      refine v_icmp_ge (pc := 58) C 80 (by decide) (by decide) (by decide) dL_law_58 (fun h => ?_) (fun h => ?_)
      · exact absurd h (by decide)
      refine v_aload_n (pc := 61) C 3 rfl rfl dL_law_61 ?_
      refine v_bipush (pc := 62) C rfl dL_law_62 ?_
      refine v_iload (pc := 64) C 0 rfl dL_law_64 ?_
      refine v_imul (pc := 66) C dL_law_66 ?_
      refine v_iconst (pc := 67) C dL_law_67 ?_
      refine v_iload (pc := 68) C 0 rfl dL_law_68 ?_
      refine v_imul (pc := 70) C dL_law_70 ?_
      refine v_iconst (pc := 71) C dL_law_71 ?_
      refine v_iadd (pc := 72) C dL_law_72 ?_
      refine as_15 (pc := 73) C ⟨by decide, by decide⟩ dL_law_73 ?_
      refine v_iinc (pc := 74) C 0 [(6, .int (iI 2)), (5, .ref (adr Ly 17 0 0)), (4, .ref (adr Ly 16 0 0)), (3, .ref (adr Ly 15 0 0)), (2, .ref (adr Ly 14 0 0)), (1, .ref (adr Ly 0 0 0)), (0, .ref b)] rfl (by decide) rfl dL_law_74 ?_
      refine v_goto (pc := 77) C 55 (by decide) dL_law_77 ?_
      refine v_iload (pc := 55) C 0 rfl dL_law_55 ?_
      refine v_iconst (pc := 57) C dL_law_57 ?_
      refine v_icmp_ge (pc := 58) C 80 (by decide) (by decide) (by decide) dL_law_58 (fun h => ?_) (fun h => ?_)
      · exact absurd h (by decide)
      refine v_aload_n (pc := 61) C 3 rfl rfl dL_law_61 ?_
      refine v_bipush (pc := 62) C rfl dL_law_62 ?_
      refine v_iload (pc := 64) C 0 rfl dL_law_64 ?_
      refine v_imul (pc := 66) C dL_law_66 ?_
      refine v_iconst (pc := 67) C dL_law_67 ?_
      refine v_iload (pc := 68) C 0 rfl dL_law_68 ?_
      refine v_imul (pc := 70) C dL_law_70 ?_
      refine v_iconst (pc := 71) C dL_law_71 ?_
      refine v_iadd (pc := 72) C dL_law_72 ?_
      refine as_15 (pc := 73) C ⟨by decide, by decide⟩ dL_law_73 ?_
      refine v_iinc (pc := 74) C 0 [(6, .int (iI 3)), (5, .ref (adr Ly 17 0 0)), (4, .ref (adr Ly 16 0 0)), (3, .ref (adr Ly 15 0 0)), (2, .ref (adr Ly 14 0 0)), (1, .ref (adr Ly 0 0 0)), (0, .ref b)] rfl (by decide) rfl dL_law_74 ?_
      refine v_goto (pc := 77) C 55 (by decide) dL_law_77 ?_
      refine v_iload (pc := 55) C 0 rfl dL_law_55 ?_
      refine v_iconst (pc := 57) C dL_law_57 ?_
      refine v_icmp_ge (pc := 58) C 80 (by decide) (by decide) (by decide) dL_law_58 (fun h => ?_) (fun h => ?_)
      · exact absurd h (by decide)
      refine v_aload_n (pc := 61) C 3 rfl rfl dL_law_61 ?_
      refine v_bipush (pc := 62) C rfl dL_law_62 ?_
      refine v_iload (pc := 64) C 0 rfl dL_law_64 ?_
      refine v_imul (pc := 66) C dL_law_66 ?_
      refine v_iconst (pc := 67) C dL_law_67 ?_
      refine v_iload (pc := 68) C 0 rfl dL_law_68 ?_
      refine v_imul (pc := 70) C dL_law_70 ?_
      refine v_iconst (pc := 71) C dL_law_71 ?_
      refine v_iadd (pc := 72) C dL_law_72 ?_
      refine as_15 (pc := 73) C ⟨by decide, by decide⟩ dL_law_73 ?_
      refine v_iinc (pc := 74) C 0 [(6, .int (iI 4)), (5, .ref (adr Ly 17 0 0)), (4, .ref (adr Ly 16 0 0)), (3, .ref (adr Ly 15 0 0)), (2, .ref (adr Ly 14 0 0)), (1, .ref (adr Ly 0 0 0)), (0, .ref b)] rfl (by decide) rfl dL_law_74 ?_
      refine v_goto (pc := 77) C 55 (by decide) dL_law_77 ?_
      refine v_iload (pc := 55) C 0 rfl dL_law_55 ?_
      refine v_iconst (pc := 57) C dL_law_57 ?_
      refine v_icmp_ge (pc := 58) C 80 (by decide) (by decide) (by decide) dL_law_58 (fun h => ?_) (fun h => ?_)
      · skip
        refine v_iconst (pc := 80) C dL_law_80 ?_
        refine v_istore (pc := 81) C [(6, .int (iI 0)), (5, .ref (adr Ly 17 0 0)), (4, .ref (adr Ly 16 0 0)), (3, .ref (adr Ly 15 0 0)), (2, .ref (adr Ly 14 0 0)), (1, .ref (adr Ly 0 0 0)), (0, .ref b)] (by decide) rfl dL_law_81 ?_
        exact fun H locs ls hI hS hl => kl H locs ls hI hS (lv_sub hl [6, 5, 4, 3, 2, 1, 0] rfl)
      · exact absurd (by decide) h
    exact fun H locs ls hI hS hl => kw H locs ls (HH_g0 hI hW0 h0) hS hl
  rw [lg_entry_eq]
  exact K s.heap [] _ hI0 va_S.rf (lv_entry [Value.ref b] (n := 16) (Nat.le_of_ble_eq_true rfl))
