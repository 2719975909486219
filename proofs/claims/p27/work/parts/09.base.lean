/-! the world by keys: a family, a number, a place in it; each key's cell holds numbers g f k j i -/
def iI (z : Int) : Int32 := Int32.ofInt z
def lI (z : Int) : Int64 := Int64.ofInt z
abbrev rg (a : Int) : Prop := -2147483648 ≤ a ∧ a ≤ 2147483647
theorem iI_toInt {a : Int} (h : rg a) : (iI a).toInt = a := Int32.toInt_ofInt_of_le (by obtain ⟨h1, h2⟩ := h; omega) (by obtain ⟨h1, h2⟩ := h; omega)
theorem iI_of (x : Int32) : iI x.toInt = x := Int32.ofInt_toInt x
theorem iI_rg (x : Int32) : rg x.toInt := ⟨Int32.le_toInt x, by have := Int32.toInt_lt x; omega⟩
theorem iI_nat {a : Int} (h : rg a) : (iI a).toNatClampNeg = a.toNat := Int32.toNatClampNeg_ofInt_of_le (by obtain ⟨h1, h2⟩ := h; omega) (by obtain ⟨h1, h2⟩ := h; omega)
theorem iI_lt {a b : Int} (ha : rg a) (hb : rg b) : iI a < iI b ↔ a < b := by rw [Int32.lt_iff_toInt_lt, iI_toInt ha, iI_toInt hb]
theorem iI_le {a b : Int} (ha : rg a) (hb : rg b) : iI a ≤ iI b ↔ a ≤ b := by rw [Int32.le_iff_toInt_le, iI_toInt ha, iI_toInt hb]
theorem iI_eq {a b : Int} (ha : rg a) (hb : rg b) : iI a = iI b ↔ a = b := by rw [← Int32.toInt_inj, iI_toInt ha, iI_toInt hb]
theorem iI_add (a b : Int) : iI a + iI b = iI (a + b) := (Int32.ofInt_add a b).symm
theorem iI_sub (a b : Int) : iI a - iI b = iI (a - b) := (Int32.ofInt_sub a b).symm
theorem iI_mul (a b : Int) : iI a * iI b = iI (a * b) := (Int32.ofInt_mul a b).symm
theorem iI_neg (a : Int) : -iI a = iI (-a) := (Int32.ofInt_neg a).symm
theorem iI_div {a b : Int} (ha : rg a) (hb : rg b) (h0 : 0 ≤ a) : iI a / iI b = iI (a / b) := by
  have h := Int32.ofInt_tdiv (a := a) (b := b) (by rw [show Int32.minValue.toInt = -2147483648 from rfl]; exact ha.1) (by rw [show Int32.maxValue.toInt = 2147483647 from rfl]; exact ha.2) (by rw [show Int32.minValue.toInt = -2147483648 from rfl]; exact hb.1) (by rw [show Int32.maxValue.toInt = 2147483647 from rfl]; exact hb.2)
  rw [Int.tdiv_eq_ediv_of_nonneg h0] at h
  exact h.symm
theorem iI_rem {a b : Int} (ha : rg a) (hb : rg b) (h0 : 0 ≤ a) : iI a - iI a / iI b * iI b = iI (a % b) := by
  rw [iI_div ha hb h0, iI_mul, iI_sub]
  congr 1
  have := Int.mul_ediv_add_emod a b
  rw [Int.mul_comm (a / b) b]; omega
theorem lI_add (a b : Int) : lI a + lI b = lI (a + b) := (Int64.ofInt_add a b).symm
theorem lI_mul (a b : Int) : lI a * lI b = lI (a * b) := (Int64.ofInt_mul a b).symm
theorem iI_l {a : Int} (h : rg a) : (iI a).toInt64 = lI a := by
  rw [← Int64.ofInt_int32ToInt, iI_toInt h]; rfl
theorem iI_ix {a : Int} {n : Nat} (h : 0 ≤ a) (h2 : a < n) (hn : n < 2147483648) : vp_in (iI a) n := by
  have hr : rg a := ⟨by omega, by omega⟩
  rw [vp_in_iff, iI_toInt hr]; exact ⟨h, by omega⟩
abbrev Lay : Type := va_G × (Nat → ClassId) × Nat
abbrev St : Type := Nat → Int → Int → Int → Int
def up (g : St) (f : Nat) (k j i v : Int) : St := fun f' k' j' i' => if f' = f ∧ k' = k ∧ j' = j ∧ i' = i then v else g f' k' j' i'
theorem up_s {g : St} {f : Nat} {k j i v : Int} : up g f k j i v f k j i = v := by simp [up]
theorem up_f {g : St} {f f' : Nat} {k j i v k' j' i' : Int} (h : f' ≠ f) : up g f k j i v f' k' j' i' = g f' k' j' i' := by simp [up, h]
theorem up_i {g : St} {f f' : Nat} {k j i v k' j' i' : Int} (h : i' ≠ i) : up g f k j i v f' k' j' i' = g f' k' j' i' := by simp [up, h]
theorem up_j {g : St} {f f' : Nat} {k j i v k' j' i' : Int} (h : j' ≠ j) : up g f k j i v f' k' j' i' = g f' k' j' i' := by simp [up, h]
theorem up_k {g : St} {f f' : Nat} {k j i v k' j' i' : Int} (h : k' ≠ k) : up g f k j i v f' k' j' i' = g f' k' j' i' := by simp [up, h]
theorem up_key {g : St} {f f' : Nat} {k j i v k' j' : Int} (h : ¬ (f' = f ∧ k' = k ∧ j' = j)) : up g f k j i v f' k' j' = g f' k' j' := by
  funext i'
  simp only [up]
  rw [if_neg (fun h2 => h ⟨h2.1, h2.2.1, h2.2.2.1⟩)]
def cb (k : Int) : Int := if k = 0 then 1 else if k ≤ 2 then 206 + 33 * k else if k ≤ 8 then 33 * k - 63 else 236
def off (f : Nat) (k j : Int) : Nat := match f with
  | 0 => 0
  | 1 => (cb k).toNat
  | 2 => (cb k + 1).toNat
  | 3 => (cb k + 2).toNat
  | 4 => (cb k + 3).toNat
  | 5 => (cb k + 4).toNat
  | 6 => (cb k + 5 + j).toNat
  | 7 => (cb k + 9 + j).toNat
  | 8 => 34
  | 9 => 35
  | 10 => 234
  | 11 => 235
  | 12 => 236
  | 13 => 237
  | 14 => 305
  | 15 => 306
  | 16 => 307
  | _ => 308
/-- the sum's array: its place among the class numbers is free (at 6: 0 where it isn't made, else where it lies, from 308 on) -/
abbrev su (L : Lay) : Nat := L.2.1 6
def adr (L : Lay) (f : Nat) (k j : Int) : Nat := L.2.2 + (if f = 18 then 308 + su L else off f k j)
def cellT (L : Lay) (f : Nat) (k j : Int) (v : Int → Int) : va_E := match f with
  | 0 => .inr (6, [.ref (adr L 1 0 0), .ref (adr L 8 0 0), .ref (adr L 10 0 0), .ref (adr L 11 0 0), .ref (adr L 12 0 0), .ref (adr L 3 9 0)])
  | 1 => .inr (1, [.int (iI (v 0)), .int (iI (v 1)), .int (iI (v 2)), .ref (adr L 2 k 0), .ref (adr L 3 k 0), .ref (adr L 4 k 0), .ref (adr L 5 k 0)])
  | 2 => .inl (L.2.1 0, 3, .inl (fun i => iI (v i)))
  | 3 => .inr (0, [.int (iI (v 0)), .int (iI (v 1)), .int (iI (v 2))])
  | 4 => .inl (L.2.1 3, 4, .inr (.inr (.inr (.inr (fun i => some (adr L 6 k i))))))
  | 5 => .inl (L.2.1 4, 24, .inr (.inr (.inr (.inr (fun i => some (adr L 7 k (v i)))))))
  | 6 => .inr (4, [.int (iI (v 0)), .int (iI (v 1)), .int (iI (v 2)), .int (iI (v 3)), .int (iI (v 4)), .int (iI (v 5))])
  | 7 => .inr (2, [.int (iI (v 0)), .int (iI (v 1)), .int (iI (v 2)), .int (iI (v 3)), .int (iI (v 4))])
  | 8 => .inr (3, [.ref (adr L 9 0 0), .int (iI (v 1))])
  | 9 => .inl (L.2.1 5, 6, .inr (.inr (.inr (.inr (fun i => some (adr L 1 (v i) 0))))))
  | 10 => .inl (L.2.1 5, 2, .inr (.inr (.inr (.inr (fun i => some (adr L 1 (1 + (i : Int)) 0))))))
  | 11 => .inl (L.2.1 1, 2, .inl (fun i => iI (v i)))
  | 12 => .inr (5, [.ref (adr L 13 0 0), .int (iI (v 1))])
  | 13 => .inl (L.2.1 0, 60, .inl (fun i => iI (v i)))
  | 14 => .inl (L.2.1 0, 10, .inl (fun i => iI (v i)))
  | 15 => .inl (L.2.1 0, 24, .inl (fun i => iI (v i)))
  | 16 => .inl (L.2.1 0, 24, .inl (fun i => iI (v i)))
  | 17 => .inl (L.2.1 0, 24, .inl (fun i => iI (v i)))
  | _ => .inl (L.2.1 0, 6, .inl (fun i => iI (v i)))
def kl0 : List (Nat × Int × Int) := [(0, 0, 0), (8, 0, 0), (9, 0, 0), (10, 0, 0), (11, 0, 0), (12, 0, 0), (13, 0, 0), (3, 9, 0), (14, 0, 0), (15, 0, 0), (16, 0, 0), (17, 0, 0)]
def klC (k : Int) : List (Nat × Int × Int) := [(1, k, 0), (2, k, 0), (3, k, 0), (4, k, 0), (5, k, 0)] ++ ((List.range 4).map (fun (j : Nat) => ((6 : Nat), k, (j : Int))) ++ (List.range 24).map (fun (j : Nat) => ((7 : Nat), k, (j : Int))))
def kl1 : List (Nat × Int × Int) := kl0 ++ (List.range 9).flatMap (fun (k : Nat) => klC (k : Int))
def kl (L : Lay) : List (Nat × Int × Int) := kl1 ++ (if 0 < su L then [(18, 0, 0)] else [])
theorem kl_C {L : Lay} {k : Int} {q : Nat × Int × Int} (h0 : 0 ≤ k) (h1 : k < 9) (h : q ∈ klC k) : q ∈ kl L := by
  refine List.mem_append_left _ (List.mem_append_right _ (List.mem_flatMap.mpr ⟨k.toNat, List.mem_range.mpr (by omega), ?_⟩))
  rw [show ((k.toNat : Nat) : Int) = k by omega]; exact h
theorem kl_1 {L : Lay} {k : Int} (h0 : 0 ≤ k) (h1 : k < 9) : (1, k, 0) ∈ kl L := kl_C h0 h1 (by simp [klC])
theorem kl_2 {L : Lay} {k : Int} (h0 : 0 ≤ k) (h1 : k < 9) : (2, k, 0) ∈ kl L := kl_C h0 h1 (by simp [klC])
theorem kl_3 {L : Lay} {k : Int} (h0 : 0 ≤ k) (h1 : k < 10) : (3, k, 0) ∈ kl L := by
  by_cases h : k = 9
  · subst h; exact List.mem_append_left _ (List.mem_append_left _ (by decide))
  · exact kl_C h0 (by omega) (by simp [klC])
theorem kl_4 {L : Lay} {k : Int} (h0 : 0 ≤ k) (h1 : k < 9) : (4, k, 0) ∈ kl L := kl_C h0 h1 (by simp [klC])
theorem kl_5 {L : Lay} {k : Int} (h0 : 0 ≤ k) (h1 : k < 9) : (5, k, 0) ∈ kl L := kl_C h0 h1 (by simp [klC])
theorem kl_6 {L : Lay} {k j : Int} (h0 : 0 ≤ k) (h1 : k < 9) (h2 : 0 ≤ j) (h3 : j < 4) : (6, k, j) ∈ kl L := kl_C h0 h1 (by
  refine List.mem_append_right _ (List.mem_append_left _ (List.mem_map.mpr ⟨j.toNat, List.mem_range.mpr (by omega), ?_⟩))
  rw [show ((j.toNat : Nat) : Int) = j by omega])
theorem kl_7 {L : Lay} {k j : Int} (h0 : 0 ≤ k) (h1 : k < 9) (h2 : 0 ≤ j) (h3 : j < 24) : (7, k, j) ∈ kl L := kl_C h0 h1 (by
  refine List.mem_append_right _ (List.mem_append_right _ (List.mem_map.mpr ⟨j.toNat, List.mem_range.mpr (by omega), ?_⟩))
  rw [show ((j.toNat : Nat) : Int) = j by omega])
theorem kl_0 {L : Lay} {f : Nat} (h : (f, (0 : Int), (0 : Int)) ∈ kl0) : (f, (0 : Int), (0 : Int)) ∈ kl L := List.mem_append_left _ (List.mem_append_left _ h)
theorem kl_18 {L : Lay} (h : 0 < su L) : (18, (0 : Int), (0 : Int)) ∈ kl L := List.mem_append_right _ (by rw [if_pos h]; exact List.mem_cons_self)
theorem kl_nd : va_nd (kl1.map (fun q => off q.1 q.2.1 q.2.2)) = true := by decide +kernel
theorem kl1_ok : ∀ q ∈ kl1, q.1 ≠ 18 ∧ off q.1 q.2.1 q.2.2 ≤ 308 := by decide +kernel
theorem kl_cs {L : Lay} {i : Nat} {p : Nat × Int × Int} (h : (kl L)[i]? = some p) : (kl1[i]? = some p ∧ p.1 ≠ 18 ∧ off p.1 p.2.1 p.2.2 ≤ 308) ∨ (p = (18, 0, 0) ∧ i = kl1.length ∧ 0 < su L) := by
  unfold kl at h
  by_cases hi : i < kl1.length
  · rw [List.getElem?_append_left hi] at h
    exact Or.inl ⟨h, kl1_ok p (List.mem_of_getElem? h)⟩
  · rw [List.getElem?_append_right (by omega)] at h
    by_cases hs : 0 < su L
    · rw [if_pos hs] at h
      have hl := (List.getElem?_eq_some_iff.mp h).1
      have h0 : i - kl1.length = 0 := by simp at hl; omega
      rw [h0] at h
      exact Or.inr ⟨(Option.some.inj h).symm, by omega, hs⟩
    · rw [if_neg hs] at h
      cases h
theorem kl_inj {L : Lay} {i j : Nat} {p q : Nat × Int × Int} (hp : (kl L)[i]? = some p) (hq : (kl L)[j]? = some q) (h : adr L p.1 p.2.1 p.2.2 = adr L q.1 q.2.1 q.2.2) : i = j := by
  unfold adr at h
  rcases kl_cs hp with ⟨h1, h2, h3⟩ | ⟨h1, h2, h3⟩ <;> rcases kl_cs hq with ⟨k1, k2, k3⟩ | ⟨k1, k2, k3⟩
  · rw [if_neg h2, if_neg k2] at h
    exact va_nd_inj _ kl_nd i j (off p.1 p.2.1 p.2.2) (by simp [List.getElem?_map, h1]) (by simp [List.getElem?_map, k1]; omega)
  · subst k1
    rw [if_neg h2, if_pos rfl] at h
    omega
  · subst h1
    rw [if_pos rfl, if_neg k2] at h
    omega
  · omega
def wl (L : Lay) (g : St) : va_W := (kl L).map (fun q => (adr L q.1 q.2.1 q.2.2, cellT L q.1 q.2.1 q.2.2 (g q.1 q.2.1 q.2.2)))
theorem wl_at (L : Lay) (g : St) {f : Nat} {k j : Int} (h : (f, k, j) ∈ kl L) : ∃ n : Nat, (kl L)[n]? = some (f, k, j) ∧ (wl L g)[n]? = some (adr L f k j, cellT L f k j (g f k j)) := by
  obtain ⟨n, hn⟩ := List.getElem?_of_mem h
  exact ⟨n, hn, by simp [wl, List.getElem?_map, hn]⟩
abbrev Af (L : Lay) : Nat → Prop := fun q => L.2.2 ≤ q
theorem wl_D (L : Lay) (g : St) : va_D (Af L) (wl L g) := by
  refine ⟨fun i j p q hp hq hpq => ?_, fun k q hq => ?_⟩
  · simp only [wl, List.getElem?_map, Option.map_eq_some_iff] at hp hq
    obtain ⟨x, hx, rfl⟩ := hp
    obtain ⟨y, hy, rfl⟩ := hq
    exact kl_inj hx hy hpq
  · simp only [wl, List.getElem?_map, Option.map_eq_some_iff] at hq
    obtain ⟨x, hx, rfl⟩ := hq
    show L.2.2 ≤ adr L _ _ _
    unfold adr; omega
theorem wl_set {L : Lay} {g g' : St} {n f : Nat} {k j : Int} {x : va_E} (hn : (kl L)[n]? = some (f, k, j)) (hx : cellT L f k j (g' f k j) = x) (ho : ∀ (f' : Nat) (k' j' : Int), ¬ (f' = f ∧ k' = k ∧ j' = j) → g' f' k' j' = g f' k' j') : (wl L g).set n (adr L f k j, x) = wl L g' := by
  subst hx
  apply List.ext_getElem?
  intro i
  rw [List.getElem?_set]
  by_cases h : n = i
  · subst h
    have hl : n < (kl L).length := (List.getElem?_eq_some_iff.mp hn).1
    have hl2 : n < (wl L g).length := by simp only [wl, List.length_map]; exact hl
    rw [if_pos rfl, if_pos hl2]
    simp only [wl, List.getElem?_map, hn, Option.map_some]
  · rw [if_neg h]
    simp only [wl, List.getElem?_map]
    cases hi : (kl L)[i]? with
    | none => rfl
    | some q =>
      obtain ⟨f', k', j'⟩ := q
      simp only [Option.map_some]
      rw [ho f' k' j' (fun h2 => h (by obtain ⟨rfl, rfl, rfl⟩ := h2; exact kl_inj hn hi rfl))]
def HH (L : Lay) (g : St) (H : Heap) : Prop := va_P L.1 vwCl (wl L g) H
def tyL (L : Lay) : List (ClassId × FieldType) := [(L.2.1 0, .int), (L.2.1 1, .boolean), (L.2.1 2, .int), (L.2.1 3, .object "CanyonBall$Player"), (L.2.1 4, .object "CanyonBall$Echo"), (L.2.1 5, .object "CanyonBall$Canyon")]
def dcs : List String := ["java/lang/RuntimeException", "java/lang/Exception", Bundle.tN]
def exs : List String := ["java/lang/IndexOutOfBoundsException", "java/lang/IllegalArgumentException", "java/lang/IllegalStateException"]
def strs : List (Nat × String) := [(97, "something is beyond that place")]
/-- what is as it was at the start: the statics that are read, the texts -/
def Stt (L : Lay) (U : State) : Prop :=
  (vx_Zq Bundle.tN "UNASSIGNED_STACK" Bundle.steD (Af L) U U.heap ∧ vx_Zq Bundle.tN "SUPPRESSED_SENTINEL" Bundle.listD (Af L) U U.heap) ∧
  (∃ t1 t2 t3 : Nat, (va_Z "CanyonBall" "LEAST_VALUES" "[I" (.ref t1) (Af L) U U.heap ∧ va_T .int t1 3 (fun j => .int (([8, 1, 0] : List Int32).getD j 0)) (Af L) U U.heap) ∧ (va_Z "CanyonBall" "MOST_VALUES" "[I" (.ref t2) (Af L) U U.heap ∧ va_T .int t2 3 (fun j => .int (([40, 9, 5] : List Int32).getD j 0)) (Af L) U U.heap) ∧ (va_Z "CanyonBall" "FIRST_VALUES" "[I" (.ref t3) (Af L) U U.heap ∧ va_T .int t3 3 (fun j => .int (([12, 3, 2] : List Int32).getD j 0)) (Af L) U U.heap)) ∧
  (∀ q ∈ strs, ∃ sa : Nat, vk_R "CanyonBall" q.1 q.2 sa U) ∧ (∀ X ∈ exs, va_Nw (.castable X X) U) ∧ (∀ X ∈ exs, ∀ Y ∈ exs, X ≠ Y → va_Nc X Y U) ∧ (∀ Y ∈ dcs, va_Nw (.declares (Bundle.initS Y)) U)
def Sm (L : Lay) (U : State) : Prop := va_K L.1 vwCl (tyL L) U ∧ Stt L U ∧ L.2.2 ≤ U.heap.size
def HS (L : Lay) (g : St) (U : State) : Prop := HH L g U.heap ∧ Sm L U
def Cx (p : Program) (s : State) (m : MethodId) (args : Array Value) (c : Code) (cc : ByteArray) (nL : Nat) (own : String) (L : Lay) : Prop :=
  p.tables.exec = Jvm.exec ∧ c.code = cc ∧ c.maxLocals = nL ∧ s.vm.findClass own = some m.cls ∧ (∀ w ∈ wsL_law, w.before args s = true) ∧ Sm L s
def V (p : Program) (l : Launch) (e : Env) (R : Room) (s : State) (m : MethodId) (args : Array Value) (below : List Frame) (meth : Method) (c : Code) (nL : Nat) (L : Lay) (I : Heap → Prop) (cells slots : Nat) (Q : State → Prop) (pc : Nat) (lv : List (Nat × Value)) (st : List Value) : Prop :=
  ∀ (H : Heap) (locs : List Loc) (ls : Array Slot), I H → va_S (Af L) s.heap H locs → lv_has ls nL lv → W p l e R s m args below meth c H locs cells slots Q (F0 m pc ls st)

section VV
variable {p : Program} {l : Launch} {e : Env} {R : Room} {s : State} {m : MethodId} {args : Array Value} {below : List Frame} {meth : Method} {c : Code} {cells slots : Nat} {Q : State → Prop} {cc : ByteArray} {nL : Nat} {own : String} {L : Lay} {I : Heap → Prop} {g : St} {pc : Nat} {lv : List (Nat × Value)} {st : List Value}
theorem v_iload_n (C : Cx p s m args c cc nL own L) {q : Fin 4} {i : Nat} {x : Int32} (n : Nat) (hn : lv[n]? = some (i, .int x)) (hi : (q : Nat) = i) (hdg : decode cc pc = .ok (.iload_n q, 1)) (k : V p l e R s m args below meth c nL L I cells slots Q (pc + 1) lv (.int x :: st)) : V p l e R s m args below meth c nL L I cells slots Q pc lv st := fun H locs ls hI hS hl => lv_iload_n C.1 C.2.1 hdg hi (lv_at hl n hn) (k H locs ls hI hS hl)
theorem v_iload (C : Cx p s m args c cc nL own L) {i : Nat} {x : Int32} (n : Nat) (hn : lv[n]? = some (i, .int x)) (hdg : decode cc pc = .ok (.iload i, 2)) (k : V p l e R s m args below meth c nL L I cells slots Q (pc + 2) lv (.int x :: st)) : V p l e R s m args below meth c nL L I cells slots Q pc lv st := fun H locs ls hI hS hl => lv_iload C.1 C.2.1 hdg (lv_at hl n hn) (k H locs ls hI hS hl)
theorem v_aload_n (C : Cx p s m args c cc nL own L) {q : Fin 4} {i : Nat} {x : Nat} (n : Nat) (hn : lv[n]? = some (i, .ref x)) (hi : (q : Nat) = i) (hdg : decode cc pc = .ok (.aload_n q, 1)) (k : V p l e R s m args below meth c nL L I cells slots Q (pc + 1) lv (.ref x :: st)) : V p l e R s m args below meth c nL L I cells slots Q pc lv st := fun H locs ls hI hS hl => lv_aload_n C.1 C.2.1 hdg hi (lv_at hl n hn) (k H locs ls hI hS hl)
theorem v_aload (C : Cx p s m args c cc nL own L) {i : Nat} {x : Nat} (n : Nat) (hn : lv[n]? = some (i, .ref x)) (hdg : decode cc pc = .ok (.aload i, 2)) (k : V p l e R s m args below meth c nL L I cells slots Q (pc + 2) lv (.ref x :: st)) : V p l e R s m args below meth c nL L I cells slots Q pc lv st := fun H locs ls hI hS hl => lv_aload C.1 C.2.1 hdg (lv_at hl n hn) (k H locs ls hI hS hl)
theorem v_lload_n (C : Cx p s m args c cc nL own L) {q : Fin 4} {i : Nat} {x : Int64} (n : Nat) (hn : lv[n]? = some (i, .long x)) (hi : (q : Nat) = i) (hdg : decode cc pc = .ok (.lload_n q, 1)) (k : V p l e R s m args below meth c nL L I cells slots Q (pc + 1) lv (.long x :: st)) : V p l e R s m args below meth c nL L I cells slots Q pc lv st := fun H locs ls hI hS hl => lv_lload_n C.1 C.2.1 hdg hi (lv_at hl n hn) (k H locs ls hI hS hl)
theorem v_lload (C : Cx p s m args c cc nL own L) {i : Nat} {x : Int64} (n : Nat) (hn : lv[n]? = some (i, .long x)) (hdg : decode cc pc = .ok (.lload i, 2)) (k : V p l e R s m args below meth c nL L I cells slots Q (pc + 2) lv (.long x :: st)) : V p l e R s m args below meth c nL L I cells slots Q pc lv st := fun H locs ls hI hS hl => lv_lload C.1 C.2.1 hdg (lv_at hl n hn) (k H locs ls hI hS hl)
theorem v_dload_n (C : Cx p s m args c cc nL own L) {q : Fin 4} {i : Nat} {x : UInt64} (n : Nat) (hn : lv[n]? = some (i, .double x)) (hi : (q : Nat) = i) (hdg : decode cc pc = .ok (.dload_n q, 1)) (k : V p l e R s m args below meth c nL L I cells slots Q (pc + 1) lv (.double x :: st)) : V p l e R s m args below meth c nL L I cells slots Q pc lv st := fun H locs ls hI hS hl => lv_dload_n C.1 C.2.1 hdg hi (lv_at hl n hn) (k H locs ls hI hS hl)
theorem v_dload (C : Cx p s m args c cc nL own L) {i : Nat} {x : UInt64} (n : Nat) (hn : lv[n]? = some (i, .double x)) (hdg : decode cc pc = .ok (.dload i, 2)) (k : V p l e R s m args below meth c nL L I cells slots Q (pc + 2) lv (.double x :: st)) : V p l e R s m args below meth c nL L I cells slots Q pc lv st := fun H locs ls hI hS hl => lv_dload C.1 C.2.1 hdg (lv_at hl n hn) (k H locs ls hI hS hl)
theorem v_istore_n (C : Cx p s m args c cc nL own L) {q : Fin 4} {i : Nat} {x : Int32} (lv' : List (Nat × Value)) (hi : (q : Nat) = i) (hn : i < nL) (hl' : (i, Value.int x) :: lv.filter (fun q => !(q.1 == i) && !(q.1 + 1 == i && q.2.category == 2)) = lv') (hdg : decode cc pc = .ok (.istore_n q, 1)) (k : V p l e R s m args below meth c nL L I cells slots Q (pc + 1) lv' st) : V p l e R s m args below meth c nL L I cells slots Q pc lv (.int x :: st) := fun H locs ls hI hS hl => lv_istore_n C.1 C.2.1 hdg hi hl hn hl' (fun ls' h' => k H locs ls' hI hS h')
theorem v_istore (C : Cx p s m args c cc nL own L) {i : Nat} {x : Int32} (lv' : List (Nat × Value)) (hn : i < nL) (hl' : (i, Value.int x) :: lv.filter (fun q => !(q.1 == i) && !(q.1 + 1 == i && q.2.category == 2)) = lv') (hdg : decode cc pc = .ok (.istore i, 2)) (k : V p l e R s m args below meth c nL L I cells slots Q (pc + 2) lv' st) : V p l e R s m args below meth c nL L I cells slots Q pc lv (.int x :: st) := fun H locs ls hI hS hl => lv_istore C.1 C.2.1 hdg hl hn hl' (fun ls' h' => k H locs ls' hI hS h')
theorem v_astore_n (C : Cx p s m args c cc nL own L) {q : Fin 4} {i : Nat} {x : Nat} (lv' : List (Nat × Value)) (hi : (q : Nat) = i) (hn : i < nL) (hl' : (i, Value.ref x) :: lv.filter (fun q => !(q.1 == i) && !(q.1 + 1 == i && q.2.category == 2)) = lv') (hdg : decode cc pc = .ok (.astore_n q, 1)) (k : V p l e R s m args below meth c nL L I cells slots Q (pc + 1) lv' st) : V p l e R s m args below meth c nL L I cells slots Q pc lv (.ref x :: st) := fun H locs ls hI hS hl => lv_astore_n C.1 C.2.1 hdg hi hl hn hl' (fun ls' h' => k H locs ls' hI hS h')
theorem v_astore (C : Cx p s m args c cc nL own L) {i : Nat} {x : Nat} (lv' : List (Nat × Value)) (hn : i < nL) (hl' : (i, Value.ref x) :: lv.filter (fun q => !(q.1 == i) && !(q.1 + 1 == i && q.2.category == 2)) = lv') (hdg : decode cc pc = .ok (.astore i, 2)) (k : V p l e R s m args below meth c nL L I cells slots Q (pc + 2) lv' st) : V p l e R s m args below meth c nL L I cells slots Q pc lv (.ref x :: st) := fun H locs ls hI hS hl => lv_astore C.1 C.2.1 hdg hl hn hl' (fun ls' h' => k H locs ls' hI hS h')
theorem v_lstore_n (C : Cx p s m args c cc nL own L) {q : Fin 4} {i : Nat} {x : Int64} (lv' : List (Nat × Value)) (hi : (q : Nat) = i) (hn : i + 1 < nL) (hl' : (i, Value.long x) :: lv.filter (fun q => !(q.1 == i) && (!(q.1 == i + 1) && !(q.1 + 1 == i && q.2.category == 2))) = lv') (hdg : decode cc pc = .ok (.lstore_n q, 1)) (k : V p l e R s m args below meth c nL L I cells slots Q (pc + 1) lv' st) : V p l e R s m args below meth c nL L I cells slots Q pc lv (.long x :: st) := fun H locs ls hI hS hl => lv_lstore_n C.1 C.2.1 hdg hi hl hn hl' (fun ls' h' => k H locs ls' hI hS h')
theorem v_lstore (C : Cx p s m args c cc nL own L) {i : Nat} {x : Int64} (lv' : List (Nat × Value)) (hn : i + 1 < nL) (hl' : (i, Value.long x) :: lv.filter (fun q => !(q.1 == i) && (!(q.1 == i + 1) && !(q.1 + 1 == i && q.2.category == 2))) = lv') (hdg : decode cc pc = .ok (.lstore i, 2)) (k : V p l e R s m args below meth c nL L I cells slots Q (pc + 2) lv' st) : V p l e R s m args below meth c nL L I cells slots Q pc lv (.long x :: st) := fun H locs ls hI hS hl => lv_lstore C.1 C.2.1 hdg hl hn hl' (fun ls' h' => k H locs ls' hI hS h')
theorem v_dstore_n (C : Cx p s m args c cc nL own L) {q : Fin 4} {i : Nat} {x : UInt64} (lv' : List (Nat × Value)) (hi : (q : Nat) = i) (hn : i + 1 < nL) (hl' : (i, Value.double x) :: lv.filter (fun q => !(q.1 == i) && (!(q.1 == i + 1) && !(q.1 + 1 == i && q.2.category == 2))) = lv') (hdg : decode cc pc = .ok (.dstore_n q, 1)) (k : V p l e R s m args below meth c nL L I cells slots Q (pc + 1) lv' st) : V p l e R s m args below meth c nL L I cells slots Q pc lv (.double x :: st) := fun H locs ls hI hS hl => lv_dstore_n C.1 C.2.1 hdg hi hl hn hl' (fun ls' h' => k H locs ls' hI hS h')
theorem v_dstore (C : Cx p s m args c cc nL own L) {i : Nat} {x : UInt64} (lv' : List (Nat × Value)) (hn : i + 1 < nL) (hl' : (i, Value.double x) :: lv.filter (fun q => !(q.1 == i) && (!(q.1 == i + 1) && !(q.1 + 1 == i && q.2.category == 2))) = lv') (hdg : decode cc pc = .ok (.dstore i, 2)) (k : V p l e R s m args below meth c nL L I cells slots Q (pc + 2) lv' st) : V p l e R s m args below meth c nL L I cells slots Q pc lv (.double x :: st) := fun H locs ls hI hS hl => lv_dstore C.1 C.2.1 hdg hl hn hl' (fun ls' h' => k H locs ls' hI hS h')
theorem v_iinc (C : Cx p s m args c cc nL own L) {i : Nat} {z a : Int} (n : Nat) (lv' : List (Nat × Value)) (hn : lv[n]? = some (i, .int (iI a))) (hb : i < nL) (hl' : (i, Value.int (iI (a + z))) :: lv.filter (fun q => !(q.1 == i) && !(q.1 + 1 == i && q.2.category == 2)) = lv') (hdg : decode cc pc = .ok (.iinc i z, 3)) (k : V p l e R s m args below meth c nL L I cells slots Q (pc + 3) lv' st) : V p l e R s m args below meth c nL L I cells slots Q pc lv st := fun H locs ls hI hS hl => lv_iinc C.1 C.2.1 hdg hl hn (iI_add a z) hb hl' (fun ls' h' => k H locs ls' hI hS h')
theorem v_iconst (C : Cx p s m args c cc nL own L) {z : Int} (hdg : decode cc pc = .ok (.iconst z, 1)) (k : V p l e R s m args below meth c nL L I cells slots Q (pc + 1) lv (.int (iI z) :: st)) : V p l e R s m args below meth c nL L I cells slots Q pc lv st := fun H locs ls hI hS hl => lv_iconst C.1 C.2.1 hdg rfl (k H locs ls hI hS hl)
theorem v_bipush (C : Cx p s m args c cc nL own L) {z : Int} (hz : (Int8.ofInt z).toInt32 = iI z) (hdg : decode cc pc = .ok (.bipush z, 2)) (k : V p l e R s m args below meth c nL L I cells slots Q (pc + 2) lv (.int (iI z) :: st)) : V p l e R s m args below meth c nL L I cells slots Q pc lv st := fun H locs ls hI hS hl => lv_bipush C.1 C.2.1 hdg hz (k H locs ls hI hS hl)
theorem v_sipush (C : Cx p s m args c cc nL own L) {z : Int} (hz : (Int16.ofInt z).toInt32 = iI z) (hdg : decode cc pc = .ok (.sipush z, 3)) (k : V p l e R s m args below meth c nL L I cells slots Q (pc + 3) lv (.int (iI z) :: st)) : V p l e R s m args below meth c nL L I cells slots Q pc lv st := fun H locs ls hI hS hl => lv_sipush C.1 C.2.1 hdg hz (k H locs ls hI hS hl)
theorem v_lconst (C : Cx p s m args c cc nL own L) {q : Fin 2} {z : Int} (hz : Int64.ofNat (q : Nat) = lI z) (hdg : decode cc pc = .ok (.lconst q, 1)) (k : V p l e R s m args below meth c nL L I cells slots Q (pc + 1) lv (.long (lI z) :: st)) : V p l e R s m args below meth c nL L I cells slots Q pc lv st := fun H locs ls hI hS hl => lv_lconst C.1 C.2.1 hdg hz (k H locs ls hI hS hl)
theorem v_dconst0 (C : Cx p s m args c cc nL own L) (hdg : decode cc pc = .ok (.dconst 0, 1)) (k : V p l e R s m args below meth c nL L I cells slots Q (pc + 1) lv (.double FP.dconst0 :: st)) : V p l e R s m args below meth c nL L I cells slots Q pc lv st := fun H locs ls hI hS hl => lv_dconst0 C.1 C.2.1 hdg (k H locs ls hI hS hl)
theorem v_dconst1 (C : Cx p s m args c cc nL own L) (hdg : decode cc pc = .ok (.dconst 1, 1)) (k : V p l e R s m args below meth c nL L I cells slots Q (pc + 1) lv (.double FP.dconst1 :: st)) : V p l e R s m args below meth c nL L I cells slots Q pc lv st := fun H locs ls hI hS hl => lv_dconst1 C.1 C.2.1 hdg (k H locs ls hI hS hl)
theorem v_ldc (C : Cx p s m args c cc nL own L) {ix : Nat} {x : Int32} {z : Int} (hz : x = iI z) (hw : Jvm.Cond.constant own ix x ∈ wsL_law) (hdg : decode cc pc = .ok (.ldc ix, 2)) (k : V p l e R s m args below meth c nL L I cells slots Q (pc + 2) lv (.int (iI z) :: st)) : V p l e R s m args below meth c nL L I cells slots Q pc lv st := fun H locs ls hI hS hl => lv_ldc C.1 C.2.1 C.2.2.2.1 (C.2.2.2.2.1 _ (hz ▸ hw)) hdg (k H locs ls hI hS hl)
theorem v_ldc2 (C : Cx p s m args c cc nL own L) {ix : Nat} {x : Int64} {z : Int} (hz : x = lI z) (hw : Jvm.Cond.constantLong own ix x ∈ wsL_law) (hdg : decode cc pc = .ok (.ldc2_w ix, 3)) (k : V p l e R s m args below meth c nL L I cells slots Q (pc + 3) lv (.long (lI z) :: st)) : V p l e R s m args below meth c nL L I cells slots Q pc lv st := fun H locs ls hI hS hl => lv_ldc2 C.1 C.2.1 C.2.2.2.1 (C.2.2.2.2.1 _ (hz ▸ hw)) hdg (k H locs ls hI hS hl)
theorem v_ldc2d (C : Cx p s m args c cc nL own L) {ix : Nat} {x : UInt64} (hw : Jvm.Cond.constantDouble own ix x ∈ wsL_law) (hdg : decode cc pc = .ok (.ldc2_w ix, 3)) (k : V p l e R s m args below meth c nL L I cells slots Q (pc + 3) lv (.double x :: st)) : V p l e R s m args below meth c nL L I cells slots Q pc lv st := fun H locs ls hI hS hl => lv_ldc2d C.1 C.2.1 C.2.2.2.1 (C.2.2.2.2.1 _ hw) hdg (k H locs ls hI hS hl)
theorem v_iadd (C : Cx p s m args c cc nL own L) {a b : Int} (hdg : decode cc pc = .ok (.iadd, 1)) (k : V p l e R s m args below meth c nL L I cells slots Q (pc + 1) lv (.int (iI (a + b)) :: st)) : V p l e R s m args below meth c nL L I cells slots Q pc lv (.int (iI b) :: .int (iI a) :: st) := fun H locs ls hI hS hl => lv_iadd C.1 C.2.1 hdg (by rw [iI_add]; exact k H locs ls hI hS hl)
theorem v_isub (C : Cx p s m args c cc nL own L) {a b : Int} (hdg : decode cc pc = .ok (.isub, 1)) (k : V p l e R s m args below meth c nL L I cells slots Q (pc + 1) lv (.int (iI (a - b)) :: st)) : V p l e R s m args below meth c nL L I cells slots Q pc lv (.int (iI b) :: .int (iI a) :: st) := fun H locs ls hI hS hl => lv_isub C.1 C.2.1 hdg (by rw [iI_sub]; exact k H locs ls hI hS hl)
theorem v_imul (C : Cx p s m args c cc nL own L) {a b : Int} (hdg : decode cc pc = .ok (.imul, 1)) (k : V p l e R s m args below meth c nL L I cells slots Q (pc + 1) lv (.int (iI (a * b)) :: st)) : V p l e R s m args below meth c nL L I cells slots Q pc lv (.int (iI b) :: .int (iI a) :: st) := fun H locs ls hI hS hl => lv_imul C.1 C.2.1 hdg (by rw [iI_mul]; exact k H locs ls hI hS hl)
theorem v_idiv (C : Cx p s m args c cc nL own L) {a b : Int} (h : rg a ∧ rg b ∧ 0 ≤ a ∧ b ≠ 0) (hdg : decode cc pc = .ok (.idiv, 1)) (k : V p l e R s m args below meth c nL L I cells slots Q (pc + 1) lv (.int (iI (a / b)) :: st)) : V p l e R s m args below meth c nL L I cells slots Q pc lv (.int (iI b) :: .int (iI a) :: st) := fun H locs ls hI hS hl => lv_idiv C.1 C.2.1 hdg (fun h0 => h.2.2.2 ((iI_eq h.2.1 (b := 0) ⟨by decide, by decide⟩).mp h0)) (by rw [iI_div h.1 h.2.1 h.2.2.1]; exact k H locs ls hI hS hl)
theorem v_irem (C : Cx p s m args c cc nL own L) {a b : Int} (h : rg a ∧ rg b ∧ 0 ≤ a ∧ b ≠ 0) (hdg : decode cc pc = .ok (.irem, 1)) (k : V p l e R s m args below meth c nL L I cells slots Q (pc + 1) lv (.int (iI (a % b)) :: st)) : V p l e R s m args below meth c nL L I cells slots Q pc lv (.int (iI b) :: .int (iI a) :: st) := fun H locs ls hI hS hl => lv_irem C.1 C.2.1 hdg (fun h0 => h.2.2.2 ((iI_eq h.2.1 (b := 0) ⟨by decide, by decide⟩).mp h0)) (by rw [iI_rem h.1 h.2.1 h.2.2.1]; exact k H locs ls hI hS hl)
theorem v_ineg (C : Cx p s m args c cc nL own L) {a : Int} (hdg : decode cc pc = .ok (.ineg, 1)) (k : V p l e R s m args below meth c nL L I cells slots Q (pc + 1) lv (.int (iI (-a)) :: st)) : V p l e R s m args below meth c nL L I cells slots Q pc lv (.int (iI a) :: st) := fun H locs ls hI hS hl => lv_ineg C.1 C.2.1 hdg (by rw [iI_neg]; exact k H locs ls hI hS hl)
theorem v_i2l (C : Cx p s m args c cc nL own L) {a : Int} (h : rg a) (hdg : decode cc pc = .ok (.i2l, 1)) (k : V p l e R s m args below meth c nL L I cells slots Q (pc + 1) lv (.long (lI a) :: st)) : V p l e R s m args below meth c nL L I cells slots Q pc lv (.int (iI a) :: st) := fun H locs ls hI hS hl => lv_i2l C.1 C.2.1 hdg (iI_l h) (k H locs ls hI hS hl)
theorem v_ladd (C : Cx p s m args c cc nL own L) {a b : Int} (hdg : decode cc pc = .ok (.ladd, 1)) (k : V p l e R s m args below meth c nL L I cells slots Q (pc + 1) lv (.long (lI (a + b)) :: st)) : V p l e R s m args below meth c nL L I cells slots Q pc lv (.long (lI b) :: .long (lI a) :: st) := fun H locs ls hI hS hl => lv_ladd C.1 C.2.1 hdg (by rw [lI_add]; exact k H locs ls hI hS hl)
theorem v_lmul (C : Cx p s m args c cc nL own L) {a b : Int} (hdg : decode cc pc = .ok (.lmul, 1)) (k : V p l e R s m args below meth c nL L I cells slots Q (pc + 1) lv (.long (lI (a * b)) :: st)) : V p l e R s m args below meth c nL L I cells slots Q pc lv (.long (lI b) :: .long (lI a) :: st) := fun H locs ls hI hS hl => lv_lmul C.1 C.2.1 hdg (by rw [lI_mul]; exact k H locs ls hI hS hl)
theorem v_i2d (C : Cx p s m args c cc nL own L) {x : Int32} (hdg : decode cc pc = .ok (.i2d, 1)) (k : V p l e R s m args below meth c nL L I cells slots Q (pc + 1) lv (.double (FP.i2d x) :: st)) : V p l e R s m args below meth c nL L I cells slots Q pc lv (.int x :: st) := fun H locs ls hI hS hl => lv_i2d C.1 C.2.1 hdg (k H locs ls hI hS hl)
theorem v_d2l (C : Cx p s m args c cc nL own L) {x : UInt64} (hdg : decode cc pc = .ok (.d2l, 1)) (k : V p l e R s m args below meth c nL L I cells slots Q (pc + 1) lv (.long (FP.d2l x) :: st)) : V p l e R s m args below meth c nL L I cells slots Q pc lv (.double x :: st) := fun H locs ls hI hS hl => lv_d2l C.1 C.2.1 hdg (k H locs ls hI hS hl)
theorem v_ddiv (C : Cx p s m args c cc nL own L) {x y : UInt64} (h : vf_n64 (FP.ddiv x y)) (hdg : decode cc pc = .ok (.ddiv, 1)) (k : V p l e R s m args below meth c nL L I cells slots Q (pc + 1) lv (.double (FP.ddiv x y) :: st)) : V p l e R s m args below meth c nL L I cells slots Q pc lv (.double y :: .double x :: st) := fun H locs ls hI hS hl => lv_ddiv C.1 C.2.1 hdg h (k H locs ls hI hS hl)
theorem v_dmul (C : Cx p s m args c cc nL own L) {x y : UInt64} (h : vf_n64 (FP.dmul x y)) (hdg : decode cc pc = .ok (.dmul, 1)) (k : V p l e R s m args below meth c nL L I cells slots Q (pc + 1) lv (.double (FP.dmul x y) :: st)) : V p l e R s m args below meth c nL L I cells slots Q pc lv (.double y :: .double x :: st) := fun H locs ls hI hS hl => lv_dmul C.1 C.2.1 hdg h (k H locs ls hI hS hl)
theorem v_dsub (C : Cx p s m args c cc nL own L) {x y : UInt64} (h : vf_n64 (FP.dsub x y)) (hdg : decode cc pc = .ok (.dsub, 1)) (k : V p l e R s m args below meth c nL L I cells slots Q (pc + 1) lv (.double (FP.dsub x y) :: st)) : V p l e R s m args below meth c nL L I cells slots Q pc lv (.double y :: .double x :: st) := fun H locs ls hI hS hl => lv_dsub C.1 C.2.1 hdg h (k H locs ls hI hS hl)
theorem v_dcmp (C : Cx p s m args c cc nL own L) {x y : UInt64} {op : CmpOp} {z : Int} (hz : Op.cmpValue (FP.dcmp x y) op = iI z) (hdg : decode cc pc = .ok (.dcmp op, 1)) (k : V p l e R s m args below meth c nL L I cells slots Q (pc + 1) lv (.int (iI z) :: st)) : V p l e R s m args below meth c nL L I cells slots Q pc lv (.double y :: .double x :: st) := fun H locs ls hI hS hl => lv_dcmp C.1 C.2.1 hdg (show W p l e R s m args below meth c H locs cells slots Q (F0 m (pc + 1) ls (.int (Op.cmpValue (FP.dcmp x y) op) :: st)) from hz.symm ▸ k H locs ls hI hS hl)
theorem v_dup (C : Cx p s m args c cc nL own L) {x : Value} (hx : x.category = 1) (hdg : decode cc pc = .ok (.dup, 1)) (k : V p l e R s m args below meth c nL L I cells slots Q (pc + 1) lv (x :: x :: st)) : V p l e R s m args below meth c nL L I cells slots Q pc lv (x :: st) := fun H locs ls hI hS hl => lv_dup C.1 C.2.1 hdg hx (k H locs ls hI hS hl)
theorem v_pop (C : Cx p s m args c cc nL own L) {x : Value} (hx : x.category = 1) (hdg : decode cc pc = .ok (.pop, 1)) (k : V p l e R s m args below meth c nL L I cells slots Q (pc + 1) lv st) : V p l e R s m args below meth c nL L I cells slots Q pc lv (x :: st) := fun H locs ls hI hS hl => lv_pop C.1 C.2.1 hdg hx (k H locs ls hI hS hl)
theorem v_dup2 (C : Cx p s m args c cc nL own L) {x y : Value} (hx : x.category = 1) (hy : y.category = 1) (hdg : decode cc pc = .ok (.dup2, 1)) (k : V p l e R s m args below meth c nL L I cells slots Q (pc + 1) lv (x :: y :: x :: y :: st)) : V p l e R s m args below meth c nL L I cells slots Q pc lv (x :: y :: st) := fun H locs ls hI hS hl => lv_dup2_11 C.1 C.2.1 hdg hx hy (k H locs ls hI hS hl)
theorem v_goto (C : Cx p s m args c cc nL own L) {o : Int} (tgt : Nat) (ht : (pc : Int) + o = (tgt : Int)) (hdg : decode cc pc = .ok (.goto o, 3)) (k : V p l e R s m args below meth c nL L I cells slots Q tgt lv st) : V p l e R s m args below meth c nL L I cells slots Q pc lv st := fun H locs ls hI hS hl => lv_goto C.1 C.2.1 hdg ht (k H locs ls hI hS hl)
theorem v_icmp_eq (C : Cx p s m args c cc nL own L) {a b o : Int} (tgt : Nat) (ha : rg a) (hb : rg b) (ht : (pc : Int) + o = (tgt : Int)) (hdg : decode cc pc = .ok (.if_icmp .eq o, 3)) (kt : a = b → V p l e R s m args below meth c nL L I cells slots Q tgt lv st) (kf : ¬ (a = b) → V p l e R s m args below meth c nL L I cells slots Q (pc + 3) lv st) : V p l e R s m args below meth c nL L I cells slots Q pc lv (.int (iI b) :: .int (iI a) :: st) := by
  intro H locs ls hI hS hl
  have hh : (iI a = iI b) ↔ (a = b) := (iI_eq ha hb)
  first
  | exact lv_icmp_eq C.1 C.2.1 hdg ht (fun h => kt (hh.mp h) H locs ls hI hS hl) (fun h => kf (fun h2 => h (hh.mpr h2)) H locs ls hI hS hl)
  | exact lv_icmp_eq C.1 C.2.1 hdg ht (fun h => kt (hh.mp (fun h2 => h h2)) H locs ls hI hS hl) (fun h => kf (fun h2 => (hh.mpr h2) h) H locs ls hI hS hl)
theorem v_if_eq (C : Cx p s m args c cc nL own L) {a o : Int} (tgt : Nat) (ha : rg a) (ht : (pc : Int) + o = (tgt : Int)) (hdg : decode cc pc = .ok (.ifCond .eq o, 3)) (kt : a = 0 → V p l e R s m args below meth c nL L I cells slots Q tgt lv st) (kf : ¬ (a = 0) → V p l e R s m args below meth c nL L I cells slots Q (pc + 3) lv st) : V p l e R s m args below meth c nL L I cells slots Q pc lv (.int (iI a) :: st) := by
  intro H locs ls hI hS hl
  have hb : rg (0 : Int) := ⟨by decide, by decide⟩
  have hh : (iI a = 0) ↔ (a = 0) := (iI_eq ha hb)
  first
  | exact lv_if_eq C.1 C.2.1 hdg ht (fun h => kt (hh.mp h) H locs ls hI hS hl) (fun h => kf (fun h2 => h (hh.mpr h2)) H locs ls hI hS hl)
  | exact lv_if_eq C.1 C.2.1 hdg ht (fun h => kt (hh.mp (fun h2 => h h2)) H locs ls hI hS hl) (fun h => kf (fun h2 => (hh.mpr h2) h) H locs ls hI hS hl)
theorem v_icmp_ne (C : Cx p s m args c cc nL own L) {a b o : Int} (tgt : Nat) (ha : rg a) (hb : rg b) (ht : (pc : Int) + o = (tgt : Int)) (hdg : decode cc pc = .ok (.if_icmp .ne o, 3)) (kt : a ≠ b → V p l e R s m args below meth c nL L I cells slots Q tgt lv st) (kf : ¬ (a ≠ b) → V p l e R s m args below meth c nL L I cells slots Q (pc + 3) lv st) : V p l e R s m args below meth c nL L I cells slots Q pc lv (.int (iI b) :: .int (iI a) :: st) := by
  intro H locs ls hI hS hl
  have hh : (iI a ≠ iI b) ↔ (a ≠ b) := (not_congr (iI_eq ha hb))
  first
  | exact lv_icmp_ne C.1 C.2.1 hdg ht (fun h => kt (hh.mp h) H locs ls hI hS hl) (fun h => kf (fun h2 => h (hh.mpr h2)) H locs ls hI hS hl)
  | exact lv_icmp_ne C.1 C.2.1 hdg ht (fun h => kt (hh.mp (fun h2 => h h2)) H locs ls hI hS hl) (fun h => kf (fun h2 => (hh.mpr h2) h) H locs ls hI hS hl)
theorem v_if_ne (C : Cx p s m args c cc nL own L) {a o : Int} (tgt : Nat) (ha : rg a) (ht : (pc : Int) + o = (tgt : Int)) (hdg : decode cc pc = .ok (.ifCond .ne o, 3)) (kt : a ≠ 0 → V p l e R s m args below meth c nL L I cells slots Q tgt lv st) (kf : ¬ (a ≠ 0) → V p l e R s m args below meth c nL L I cells slots Q (pc + 3) lv st) : V p l e R s m args below meth c nL L I cells slots Q pc lv (.int (iI a) :: st) := by
  intro H locs ls hI hS hl
  have hb : rg (0 : Int) := ⟨by decide, by decide⟩
  have hh : (iI a ≠ 0) ↔ (a ≠ 0) := (not_congr (iI_eq ha hb))
  first
  | exact lv_if_ne C.1 C.2.1 hdg ht (fun h => kt (hh.mp h) H locs ls hI hS hl) (fun h => kf (fun h2 => h (hh.mpr h2)) H locs ls hI hS hl)
  | exact lv_if_ne C.1 C.2.1 hdg ht (fun h => kt (hh.mp (fun h2 => h h2)) H locs ls hI hS hl) (fun h => kf (fun h2 => (hh.mpr h2) h) H locs ls hI hS hl)
theorem v_icmp_lt (C : Cx p s m args c cc nL own L) {a b o : Int} (tgt : Nat) (ha : rg a) (hb : rg b) (ht : (pc : Int) + o = (tgt : Int)) (hdg : decode cc pc = .ok (.if_icmp .lt o, 3)) (kt : a < b → V p l e R s m args below meth c nL L I cells slots Q tgt lv st) (kf : ¬ (a < b) → V p l e R s m args below meth c nL L I cells slots Q (pc + 3) lv st) : V p l e R s m args below meth c nL L I cells slots Q pc lv (.int (iI b) :: .int (iI a) :: st) := by
  intro H locs ls hI hS hl
  have hh : (iI a < iI b) ↔ (a < b) := (iI_lt ha hb)
  first
  | exact lv_icmp_lt C.1 C.2.1 hdg ht (fun h => kt (hh.mp h) H locs ls hI hS hl) (fun h => kf (fun h2 => h (hh.mpr h2)) H locs ls hI hS hl)
  | exact lv_icmp_lt C.1 C.2.1 hdg ht (fun h => kt (hh.mp (fun h2 => h h2)) H locs ls hI hS hl) (fun h => kf (fun h2 => (hh.mpr h2) h) H locs ls hI hS hl)
theorem v_if_lt (C : Cx p s m args c cc nL own L) {a o : Int} (tgt : Nat) (ha : rg a) (ht : (pc : Int) + o = (tgt : Int)) (hdg : decode cc pc = .ok (.ifCond .lt o, 3)) (kt : a < 0 → V p l e R s m args below meth c nL L I cells slots Q tgt lv st) (kf : ¬ (a < 0) → V p l e R s m args below meth c nL L I cells slots Q (pc + 3) lv st) : V p l e R s m args below meth c nL L I cells slots Q pc lv (.int (iI a) :: st) := by
  intro H locs ls hI hS hl
  have hb : rg (0 : Int) := ⟨by decide, by decide⟩
  have hh : (iI a < 0) ↔ (a < 0) := (iI_lt ha hb)
  first
  | exact lv_if_lt C.1 C.2.1 hdg ht (fun h => kt (hh.mp h) H locs ls hI hS hl) (fun h => kf (fun h2 => h (hh.mpr h2)) H locs ls hI hS hl)
  | exact lv_if_lt C.1 C.2.1 hdg ht (fun h => kt (hh.mp (fun h2 => h h2)) H locs ls hI hS hl) (fun h => kf (fun h2 => (hh.mpr h2) h) H locs ls hI hS hl)
theorem v_icmp_ge (C : Cx p s m args c cc nL own L) {a b o : Int} (tgt : Nat) (ha : rg a) (hb : rg b) (ht : (pc : Int) + o = (tgt : Int)) (hdg : decode cc pc = .ok (.if_icmp .ge o, 3)) (kt : b ≤ a → V p l e R s m args below meth c nL L I cells slots Q tgt lv st) (kf : ¬ (b ≤ a) → V p l e R s m args below meth c nL L I cells slots Q (pc + 3) lv st) : V p l e R s m args below meth c nL L I cells slots Q pc lv (.int (iI b) :: .int (iI a) :: st) := by
  intro H locs ls hI hS hl
  have hh : (iI b ≤ iI a) ↔ (b ≤ a) := (iI_le hb ha)
  first
  | exact lv_icmp_ge C.1 C.2.1 hdg ht (fun h => kt (hh.mp h) H locs ls hI hS hl) (fun h => kf (fun h2 => h (hh.mpr h2)) H locs ls hI hS hl)
  | exact lv_icmp_ge C.1 C.2.1 hdg ht (fun h => kt (hh.mp (fun h2 => h h2)) H locs ls hI hS hl) (fun h => kf (fun h2 => (hh.mpr h2) h) H locs ls hI hS hl)
theorem v_if_ge (C : Cx p s m args c cc nL own L) {a o : Int} (tgt : Nat) (ha : rg a) (ht : (pc : Int) + o = (tgt : Int)) (hdg : decode cc pc = .ok (.ifCond .ge o, 3)) (kt : 0 ≤ a → V p l e R s m args below meth c nL L I cells slots Q tgt lv st) (kf : ¬ (0 ≤ a) → V p l e R s m args below meth c nL L I cells slots Q (pc + 3) lv st) : V p l e R s m args below meth c nL L I cells slots Q pc lv (.int (iI a) :: st) := by
  intro H locs ls hI hS hl
  have hb : rg (0 : Int) := ⟨by decide, by decide⟩
  have hh : (0 ≤ iI a) ↔ (0 ≤ a) := (iI_le hb ha)
  first
  | exact lv_if_ge C.1 C.2.1 hdg ht (fun h => kt (hh.mp h) H locs ls hI hS hl) (fun h => kf (fun h2 => h (hh.mpr h2)) H locs ls hI hS hl)
  | exact lv_if_ge C.1 C.2.1 hdg ht (fun h => kt (hh.mp (fun h2 => h h2)) H locs ls hI hS hl) (fun h => kf (fun h2 => (hh.mpr h2) h) H locs ls hI hS hl)
theorem v_icmp_gt (C : Cx p s m args c cc nL own L) {a b o : Int} (tgt : Nat) (ha : rg a) (hb : rg b) (ht : (pc : Int) + o = (tgt : Int)) (hdg : decode cc pc = .ok (.if_icmp .gt o, 3)) (kt : b < a → V p l e R s m args below meth c nL L I cells slots Q tgt lv st) (kf : ¬ (b < a) → V p l e R s m args below meth c nL L I cells slots Q (pc + 3) lv st) : V p l e R s m args below meth c nL L I cells slots Q pc lv (.int (iI b) :: .int (iI a) :: st) := by
  intro H locs ls hI hS hl
  have hh : (iI b < iI a) ↔ (b < a) := (iI_lt hb ha)
  first
  | exact lv_icmp_gt C.1 C.2.1 hdg ht (fun h => kt (hh.mp h) H locs ls hI hS hl) (fun h => kf (fun h2 => h (hh.mpr h2)) H locs ls hI hS hl)
  | exact lv_icmp_gt C.1 C.2.1 hdg ht (fun h => kt (hh.mp (fun h2 => h h2)) H locs ls hI hS hl) (fun h => kf (fun h2 => (hh.mpr h2) h) H locs ls hI hS hl)
theorem v_if_gt (C : Cx p s m args c cc nL own L) {a o : Int} (tgt : Nat) (ha : rg a) (ht : (pc : Int) + o = (tgt : Int)) (hdg : decode cc pc = .ok (.ifCond .gt o, 3)) (kt : 0 < a → V p l e R s m args below meth c nL L I cells slots Q tgt lv st) (kf : ¬ (0 < a) → V p l e R s m args below meth c nL L I cells slots Q (pc + 3) lv st) : V p l e R s m args below meth c nL L I cells slots Q pc lv (.int (iI a) :: st) := by
  intro H locs ls hI hS hl
  have hb : rg (0 : Int) := ⟨by decide, by decide⟩
  have hh : (0 < iI a) ↔ (0 < a) := (iI_lt hb ha)
  first
  | exact lv_if_gt C.1 C.2.1 hdg ht (fun h => kt (hh.mp h) H locs ls hI hS hl) (fun h => kf (fun h2 => h (hh.mpr h2)) H locs ls hI hS hl)
  | exact lv_if_gt C.1 C.2.1 hdg ht (fun h => kt (hh.mp (fun h2 => h h2)) H locs ls hI hS hl) (fun h => kf (fun h2 => (hh.mpr h2) h) H locs ls hI hS hl)
theorem v_icmp_le (C : Cx p s m args c cc nL own L) {a b o : Int} (tgt : Nat) (ha : rg a) (hb : rg b) (ht : (pc : Int) + o = (tgt : Int)) (hdg : decode cc pc = .ok (.if_icmp .le o, 3)) (kt : a ≤ b → V p l e R s m args below meth c nL L I cells slots Q tgt lv st) (kf : ¬ (a ≤ b) → V p l e R s m args below meth c nL L I cells slots Q (pc + 3) lv st) : V p l e R s m args below meth c nL L I cells slots Q pc lv (.int (iI b) :: .int (iI a) :: st) := by
  intro H locs ls hI hS hl
  have hh : (iI a ≤ iI b) ↔ (a ≤ b) := (iI_le ha hb)
  first
  | exact lv_icmp_le C.1 C.2.1 hdg ht (fun h => kt (hh.mp h) H locs ls hI hS hl) (fun h => kf (fun h2 => h (hh.mpr h2)) H locs ls hI hS hl)
  | exact lv_icmp_le C.1 C.2.1 hdg ht (fun h => kt (hh.mp (fun h2 => h h2)) H locs ls hI hS hl) (fun h => kf (fun h2 => (hh.mpr h2) h) H locs ls hI hS hl)
theorem v_if_le (C : Cx p s m args c cc nL own L) {a o : Int} (tgt : Nat) (ha : rg a) (ht : (pc : Int) + o = (tgt : Int)) (hdg : decode cc pc = .ok (.ifCond .le o, 3)) (kt : a ≤ 0 → V p l e R s m args below meth c nL L I cells slots Q tgt lv st) (kf : ¬ (a ≤ 0) → V p l e R s m args below meth c nL L I cells slots Q (pc + 3) lv st) : V p l e R s m args below meth c nL L I cells slots Q pc lv (.int (iI a) :: st) := by
  intro H locs ls hI hS hl
  have hb : rg (0 : Int) := ⟨by decide, by decide⟩
  have hh : (iI a ≤ 0) ↔ (a ≤ 0) := (iI_le ha hb)
  first
  | exact lv_if_le C.1 C.2.1 hdg ht (fun h => kt (hh.mp h) H locs ls hI hS hl) (fun h => kf (fun h2 => h (hh.mpr h2)) H locs ls hI hS hl)
  | exact lv_if_le C.1 C.2.1 hdg ht (fun h => kt (hh.mp (fun h2 => h h2)) H locs ls hI hS hl) (fun h => kf (fun h2 => (hh.mpr h2) h) H locs ls hI hS hl)
theorem v_tableIn (C : Cx p s m args c cc nL own L) {a dflt lo hi o : Int} {offs : Array Int} {len : Nat} (tgt : Nat) (ha : rg a) (h1 : lo ≤ a) (h2 : a ≤ hi) (ho : offs[(a - lo).toNat]? = some o) (ht : (pc : Int) + o = (tgt : Int)) (hdg : decode cc pc = .ok (.tableswitch dflt lo hi offs, len)) (k : V p l e R s m args below meth c nL L I cells slots Q tgt lv st) : V p l e R s m args below meth c nL L I cells slots Q pc lv (.int (iI a) :: st) := fun H locs ls hI hS hl => lv_tableIn C.1 C.2.1 hdg (by rw [iI_toInt ha]; omega) (by rw [iI_toInt ha]; omega) (by rw [iI_toInt ha]; exact ho) ht (k H locs ls hI hS hl)
theorem v_tableOut (C : Cx p s m args c cc nL own L) {a dflt lo hi : Int} {offs : Array Int} {len : Nat} (tgt : Nat) (ha : rg a) (h : a < lo ∨ hi < a) (ht : (pc : Int) + dflt = (tgt : Int)) (hdg : decode cc pc = .ok (.tableswitch dflt lo hi offs, len)) (k : V p l e R s m args below meth c nL L I cells slots Q tgt lv st) : V p l e R s m args below meth c nL L I cells slots Q pc lv (.int (iI a) :: st) := fun H locs ls hI hS hl => lv_tableOut C.1 C.2.1 hdg (by rw [iI_toInt ha]; exact h) ht (k H locs ls hI hS hl)
theorem v_lookup (C : Cx p s m args c cc nL own L) {a dflt o : Int} {ps : Array (Int × Int)} {len : Nat} (tgt : Nat) (ha : rg a) (hp : (ps.toList.zip (ps.toList.drop 1)).all (fun (a, next) => a.1 < next.1) = true) (ho : Op.lookupswitch.offset ps.toList dflt a = o) (ht : (pc : Int) + o = (tgt : Int)) (hdg : decode cc pc = .ok (.lookupswitch dflt ps, len)) (k : V p l e R s m args below meth c nL L I cells slots Q tgt lv st) : V p l e R s m args below meth c nL L I cells slots Q pc lv (.int (iI a) :: st) := fun H locs ls hI hS hl => lv_lookup C.1 C.2.1 hdg hp (by rw [iI_toInt ha]; exact ho) ht (k H locs ls hI hS hl)
theorem v_get (C : Cx p s m args c cc nL own L) {ix ci f : Nat} {k j : Int} {fs : List Value} {v : Value} {ref Cn : String} {T : u_T} {N : Nat} (q : Nat) (hok : (f, k, j) ∈ kl L) (he : cellT L f k j (g f k j) = .inr (ci, fs)) (hc : vwCl[ci]? = some (Cn, T, N)) (hin : ∀ w ∈ u_ws Cn T N, w ∈ wsL_law) (hq : q < N) (hw : Cond.fieldLink own ix ref (T q).2.1 (T q).2.2.1 ∈ wsL_law) (hs : (T q).1 = ref) (hv : fs[q]? = some v) (hdg : decode cc pc = .ok (.getfield ix, 3)) (kk : V p l e R s m args below meth c nL L (HH L g) cells slots Q (pc + 3) lv (v :: st)) : V p l e R s m args below meth c nL L (HH L g) cells slots Q pc lv (.ref (adr L f k j) :: st) := by
  intro H locs ls hI hS hl
  obtain ⟨n, -, hn⟩ := wl_at L g hok
  rw [he] at hn
  exact va_get (D := L.1) (cl := vwCl) C.1 C.2.1 C.2.2.2.2.1 hin C.2.2.2.1 C.2.2.2.2.2.1 hI n hn hc q hq (C.2.2.2.2.1 _ hw) (fun x hx => by rw [← hs]; exact hx) hv hdg (kk H locs ls hI hS hl)
theorem v_put (C : Cx p s m args c cc nL own L) {ix ci f : Nat} {k j i z : Int} {fs : List Value} {v : Value} {ref Cn : String} {T : u_T} {N : Nat} {ty0 : Nat → FieldType} {ty : FieldType} (q : Nat) (hok : (f, k, j) ∈ kl L) (he : cellT L f k j (g f k j) = .inr (ci, fs)) (he2 : cellT L f k j (up g f k j i z f k j) = .inr (ci, fs.set q v)) (hc : vwCl[ci]? = some (Cn, T, N)) (hin : ∀ w ∈ u_ws Cn T N, w ∈ wsL_law) (hty : ∀ k, k < N → parseFieldDescriptor (T k).2.2.1 = some (ty0 k)) (hnm : ∀ a, a < N → ∀ b, b < N → a ≠ b → (T a).2.1 ≠ (T b).2.1) (hq : q < N) (hw : Cond.fieldLink own ix ref (T q).2.1 (T q).2.2.1 ∈ wsL_law) (hs : (T q).1 = ref) (hfin : (T q).2.2.2 = false) (hd : parseFieldDescriptor (T q).2.2.1 = some ty) (hna : narrow ty v = v) (hfit : fits ty v = true) (hlen : q < fs.length) (hdg : decode cc pc = .ok (.putfield ix, 3))
    (kk : V p l e R s m args below meth c nL L (HH L (up g f k j i z)) cells slots Q (pc + 3) lv st) : V p l e R s m args below meth c nL L (HH L g) cells slots Q pc lv (v :: .ref (adr L f k j) :: st) := by
  intro H locs ls hI hS hl
  obtain ⟨n, hkn, hn⟩ := wl_at L g hok
  rw [he] at hn
  refine va_put (D := L.1) (cl := vwCl) C.1 C.2.1 C.2.2.2.2.1 hin ty0 hty hnm C.2.2.2.1 C.2.2.2.2.2.1 hI (wl_D L g) hS n hn hc q hq (C.2.2.2.2.1 _ hw) (fun x hx => by rw [← hs]; exact hx) hfin hd hna hfit hlen hdg (fun H1 locs1 hP hD hS1 => ?_)
  rw [wl_set (g' := up g f k j i z) hkn he2 (fun f' k' j' h => up_key h)] at hP
  exact kk H1 locs1 ls hP hS1 hl
theorem v_iald (C : Cx p s m args c cc nL own L) {f t0 : Nat} {k j a : Int} {n : Nat} {cA : ClassId} {fn : Nat → Int32} (hok : (f, k, j) ∈ kl L) (he : cellT L f k j (g f k j) = .inl (cA, n, .inl fn)) (ht : (tyL L)[t0]? = some (cA, .int)) (h : 0 ≤ a ∧ a < n) (hn2 : n < 2147483648) (z : Int) (hv : fn a.toNat = iI z) (hdg : decode cc pc = .ok (.iaload, 1)) (kk : V p l e R s m args below meth c nL L (HH L g) cells slots Q (pc + 1) lv (.int (iI z) :: st)) : V p l e R s m args below meth c nL L (HH L g) cells slots Q pc lv (.int (iI a) :: .ref (adr L f k j) :: st) := by
  intro H locs ls hI hS hl
  obtain ⟨q, -, hn⟩ := wl_at L g hok
  rw [he] at hn
  refine va_iald (D := L.1) (cl := vwCl) C.1 C.2.1 C.2.2.2.2.2.1 hI q t0 hn ht (iI_ix h.1 h.2 hn2) hdg ?_
  rw [iI_nat (a := a) ⟨by omega, by omega⟩, hv]
  exact kk H locs ls hI hS hl
theorem v_zald (C : Cx p s m args c cc nL own L) {f t0 : Nat} {k j a : Int} {n : Nat} {cA : ClassId} {fn : Nat → Int32} (hok : (f, k, j) ∈ kl L) (he : cellT L f k j (g f k j) = .inl (cA, n, .inl fn)) (ht : (tyL L)[t0]? = some (cA, .boolean)) (h : 0 ≤ a ∧ a < n) (hn2 : n < 2147483648) (z : Int) (hv : fn a.toNat = iI z) (hdg : decode cc pc = .ok (.baload, 1)) (kk : V p l e R s m args below meth c nL L (HH L g) cells slots Q (pc + 1) lv (.int (iI z) :: st)) : V p l e R s m args below meth c nL L (HH L g) cells slots Q pc lv (.int (iI a) :: .ref (adr L f k j) :: st) := by
  intro H locs ls hI hS hl
  obtain ⟨q, -, hn⟩ := wl_at L g hok
  rw [he] at hn
  refine va_zald (D := L.1) (cl := vwCl) C.1 C.2.1 C.2.2.2.2.2.1 hI q t0 hn ht (iI_ix h.1 h.2 hn2) hdg ?_
  rw [iI_nat (a := a) ⟨by omega, by omega⟩, hv]
  exact kk H locs ls hI hS hl
theorem v_lald (C : Cx p s m args c cc nL own L) {f t0 : Nat} {k j a : Int} {n : Nat} {cA : ClassId} {fn : Nat → Int64} (hok : (f, k, j) ∈ kl L) (he : cellT L f k j (g f k j) = .inl (cA, n, .inr (.inl fn))) (ht : (tyL L)[t0]? = some (cA, .long)) (h : 0 ≤ a ∧ a < n) (hn2 : n < 2147483648) (z : Int) (hv : fn a.toNat = lI z) (hdg : decode cc pc = .ok (.laload, 1)) (kk : V p l e R s m args below meth c nL L (HH L g) cells slots Q (pc + 1) lv (.long (lI z) :: st)) : V p l e R s m args below meth c nL L (HH L g) cells slots Q pc lv (.int (iI a) :: .ref (adr L f k j) :: st) := by
  intro H locs ls hI hS hl
  obtain ⟨q, -, hn⟩ := wl_at L g hok
  rw [he] at hn
  refine va_lald (D := L.1) (cl := vwCl) C.1 C.2.1 C.2.2.2.2.2.1 hI q t0 hn ht (iI_ix h.1 h.2 hn2) hdg ?_
  rw [iI_nat (a := a) ⟨by omega, by omega⟩, hv]
  exact kk H locs ls hI hS hl
theorem v_aald (C : Cx p s m args c cc nL own L) {f t0 : Nat} {k j a : Int} {n : Nat} {cA : ClassId} {Cn : String} {fn : Nat → Option Nat} (hok : (f, k, j) ∈ kl L) (he : cellT L f k j (g f k j) = .inl (cA, n, .inr (.inr (.inr (.inr fn))))) (ht : (tyL L)[t0]? = some (cA, .object Cn)) (h : 0 ≤ a ∧ a < n) (hn2 : n < 2147483648) (z : Nat) (hv : fn a.toNat = some z) (hdg : decode cc pc = .ok (.aaload, 1)) (kk : V p l e R s m args below meth c nL L (HH L g) cells slots Q (pc + 1) lv (.ref z :: st)) : V p l e R s m args below meth c nL L (HH L g) cells slots Q pc lv (.int (iI a) :: .ref (adr L f k j) :: st) := by
  intro H locs ls hI hS hl
  obtain ⟨q, -, hn⟩ := wl_at L g hok
  rw [he] at hn
  refine va_aldq (D := L.1) (cl := vwCl) C.1 C.2.1 C.2.2.2.2.2.1 hI q t0 hn ht (iI_ix h.1 h.2 hn2) hdg ?_
  rw [iI_nat (a := a) ⟨by omega, by omega⟩, hv]
  exact kk H locs ls hI hS hl
theorem v_iast (C : Cx p s m args c cc nL own L) {f t0 : Nat} {k j a z : Int} {n : Nat} {cA : ClassId} {fn : Nat → Int32} (hok : (f, k, j) ∈ kl L) (he : cellT L f k j (g f k j) = .inl (cA, n, .inl fn)) (ht : (tyL L)[t0]? = some (cA, .int)) (h : 0 ≤ a ∧ a < n) (hn2 : n < 2147483648) (he2 : cellT L f k j (up g f k j a z f k j) = .inl (cA, n, .inl (upd fn a.toNat (iI z)))) (hdg : decode cc pc = .ok (.iastore, 1)) (kk : V p l e R s m args below meth c nL L (HH L (up g f k j a z)) cells slots Q (pc + 1) lv st) : V p l e R s m args below meth c nL L (HH L g) cells slots Q pc lv (.int (iI z) :: .int (iI a) :: .ref (adr L f k j) :: st) := by
  intro H locs ls hI hS hl
  obtain ⟨q, hkn, hn⟩ := wl_at L g hok
  rw [he] at hn
  refine va_iast (D := L.1) (cl := vwCl) C.1 C.2.1 C.2.2.2.2.2.1 hI (wl_D L g) hS q t0 hn ht (iI_ix h.1 h.2 hn2) hdg (fun H1 locs1 hP hD hS1 => ?_)
  rw [iI_nat (a := a) ⟨by omega, by omega⟩, wl_set (g' := up g f k j a z) hkn he2 (fun f' k' j' h => up_key h)] at hP
  exact kk H1 locs1 ls hP hS1 hl
theorem v_last (C : Cx p s m args c cc nL own L) {f t0 : Nat} {k j a z : Int} {n : Nat} {cA : ClassId} {fn : Nat → Int64} (hok : (f, k, j) ∈ kl L) (he : cellT L f k j (g f k j) = .inl (cA, n, .inr (.inl fn))) (ht : (tyL L)[t0]? = some (cA, .long)) (h : 0 ≤ a ∧ a < n) (hn2 : n < 2147483648) (he2 : cellT L f k j (up g f k j a z f k j) = .inl (cA, n, .inr (.inl (vp_updL fn a.toNat (lI z))))) (hdg : decode cc pc = .ok (.lastore, 1)) (kk : V p l e R s m args below meth c nL L (HH L (up g f k j a z)) cells slots Q (pc + 1) lv st) : V p l e R s m args below meth c nL L (HH L g) cells slots Q pc lv (.long (lI z) :: .int (iI a) :: .ref (adr L f k j) :: st) := by
  intro H locs ls hI hS hl
  obtain ⟨q, hkn, hn⟩ := wl_at L g hok
  rw [he] at hn
  refine va_last (D := L.1) (cl := vwCl) C.1 C.2.1 C.2.2.2.2.2.1 hI (wl_D L g) hS q t0 hn ht (iI_ix h.1 h.2 hn2) hdg (fun H1 locs1 hP hD hS1 => ?_)
  rw [iI_nat (a := a) ⟨by omega, by omega⟩, wl_set (g' := up g f k j a z) hkn he2 (fun f' k' j' h => up_key h)] at hP
  exact kk H1 locs1 ls hP hS1 hl
theorem v_zast (C : Cx p s m args c cc nL own L) {f t0 : Nat} {k j a z : Int} {n : Nat} {cA : ClassId} {fn : Nat → Int32} (hok : (f, k, j) ∈ kl L) (he : cellT L f k j (g f k j) = .inl (cA, n, .inl fn)) (ht : (tyL L)[t0]? = some (cA, .boolean)) (h : 0 ≤ a ∧ a < n) (hn2 : n < 2147483648) (hz : vp_nar .boolean (iI z) = iI z) (he2 : cellT L f k j (up g f k j a z f k j) = .inl (cA, n, .inl (upd fn a.toNat (iI z)))) (hdg : decode cc pc = .ok (.bastore, 1)) (kk : V p l e R s m args below meth c nL L (HH L (up g f k j a z)) cells slots Q (pc + 1) lv st) : V p l e R s m args below meth c nL L (HH L g) cells slots Q pc lv (.int (iI z) :: .int (iI a) :: .ref (adr L f k j) :: st) := by
  intro H locs ls hI hS hl
  obtain ⟨q, hkn, hn⟩ := wl_at L g hok
  rw [he] at hn
  refine va_zast (D := L.1) (cl := vwCl) C.1 C.2.1 C.2.2.2.2.2.1 hI (wl_D L g) hS q t0 hn ht (iI_ix h.1 h.2 hn2) hdg (fun H1 locs1 hP hD hS1 => ?_)
  rw [hz, iI_nat (a := a) ⟨by omega, by omega⟩, wl_set (g' := up g f k j a z) hkn he2 (fun f' k' j' h => up_key h)] at hP
  exact kk H1 locs1 ls hP hS1 hl
theorem v_aast (C : Cx p s m args c cc nL own L) {f t0 f2 ci : Nat} {k j a z k2 j2 : Int} {n : Nat} {cA : ClassId} {r : vw_C} {vs : List Value} {fn : Nat → Option Nat} (hok : (f, k, j) ∈ kl L) (he : cellT L f k j (g f k j) = .inl (cA, n, .inr (.inr (.inr (.inr fn))))) (ht : (tyL L)[t0]? = some (cA, .object r.1)) (h : 0 ≤ a ∧ a < n) (hn2 : n < 2147483648) (hok2 : (f2, k2, j2) ∈ kl L) (hv : cellT L f2 k2 j2 (g f2 k2 j2) = .inr (ci, vs)) (hc : vwCl[ci]? = some r) (he2 : cellT L f k j (up g f k j a z f k j) = .inl (cA, n, .inr (.inr (.inr (.inr (va_up fn a.toNat (some (adr L f2 k2 j2)))))))) (hdg : decode cc pc = .ok (.aastore, 1)) (kk : V p l e R s m args below meth c nL L (HH L (up g f k j a z)) cells slots Q (pc + 1) lv st) : V p l e R s m args below meth c nL L (HH L g) cells slots Q pc lv (.ref (adr L f2 k2 j2) :: .int (iI a) :: .ref (adr L f k j) :: st) := by
  intro H locs ls hI hS hl
  obtain ⟨q, hkn, hn⟩ := wl_at L g hok
  obtain ⟨q2, -, hn3⟩ := wl_at L g hok2
  rw [he] at hn
  rw [hv] at hn3
  refine va_astq (D := L.1) (cl := vwCl) C.1 C.2.1 C.2.2.2.2.2.1 hI (wl_D L g) hS q t0 q2 ci hn ht hn3 hc (iI_ix h.1 h.2 hn2) hdg (fun H1 locs1 hP hD hS1 => ?_)
  rw [iI_nat (a := a) ⟨by omega, by omega⟩, wl_set (g' := up g f k j a z) hkn he2 (fun f' k' j' h => up_key h)] at hP
  exact kk H1 locs1 ls hP hS1 hl
theorem v_alen (C : Cx p s m args c cc nL own L) {f t0 : Nat} {k j : Int} {cA : ClassId} {x : vp_A} {ty : FieldType} (hok : (f, k, j) ∈ kl L) (he : cellT L f k j (g f k j) = .inl (cA, x)) (ht : (tyL L)[t0]? = some (cA, ty)) (z : Int) (hz : Int32.ofNat x.1 = iI z) (hdg : decode cc pc = .ok (.arraylength, 1)) (kk : V p l e R s m args below meth c nL L (HH L g) cells slots Q (pc + 1) lv (.int (iI z) :: st)) : V p l e R s m args below meth c nL L (HH L g) cells slots Q pc lv (.ref (adr L f k j) :: st) := by
  intro H locs ls hI hS hl
  obtain ⟨q, -, hn⟩ := wl_at L g hok
  rw [he] at hn
  exact va_alen (D := L.1) (cl := vwCl) C.1 C.2.1 C.2.2.2.2.2.1 hI q t0 hn ht hz hdg (kk H locs ls hI hS hl)
theorem v_max (C : Cx p s m args c cc nL own L) {ix : Nat} {a b z : Int} (ha : rg a) (hb : rg b) (hz : (if a < b then b else a) = z) (hlink : Cond.methodLink own ix Lib.Math.max.name ∈ wsL_law) (hstat : Cond.static Lib.Math.max.name ∈ wsL_law) (hini : Cond.initialized "java/lang/Math" ∈ wsL_law) (hcode : Cond.code Lib.Math.max.name Lib.Math.max.code 2 (some .int) ∈ wsL_law) (hf : 1 ≤ R.frames) (hlo : (st.map fun v => v.category).sum + 13 ≤ R.locals) (hc : cells ≤ R.cells) (hs : slots ≤ R.slots) (hdg : decode cc pc = .ok (.invokestatic ix, 3)) (kk : V p l e R s m args below meth c nL L I cells slots Q (pc + 3) lv (.int (iI z) :: st)) : V p l e R s m args below meth c nL L I cells slots Q pc lv (.int (iI b) :: .int (iI a) :: st) := by
  intro H locs ls hI hS hl
  refine va_mmax C.1 C.2.1 (C.2.2.1.trans hl.1.symm) C.2.2.2.1 (C.2.2.2.2.1 _ hlink) (C.2.2.2.2.1 _ hstat) (C.2.2.2.2.1 _ hini) (C.2.2.2.2.1 _ hcode) hf hlo hc hs hdg ?_
  have hk := kk H locs ls hI hS hl
  subst hz
  by_cases h : a < b
  · rw [if_pos ((iI_lt ha hb).mpr h)]; rw [if_pos h] at hk; exact hk
  · rw [if_neg (fun h2 => h ((iI_lt ha hb).mp h2))]; rw [if_neg h] at hk; exact hk
theorem v_min (C : Cx p s m args c cc nL own L) {ix : Nat} {a b z : Int} (ha : rg a) (hb : rg b) (hz : (if b < a then b else a) = z) (hlink : Cond.methodLink own ix Lib.Math.min.name ∈ wsL_law) (hstat : Cond.static Lib.Math.min.name ∈ wsL_law) (hini : Cond.initialized "java/lang/Math" ∈ wsL_law) (hcode : Cond.code Lib.Math.min.name Lib.Math.min.code 2 (some .int) ∈ wsL_law) (hf : 1 ≤ R.frames) (hlo : (st.map fun v => v.category).sum + 13 ≤ R.locals) (hc : cells ≤ R.cells) (hs : slots ≤ R.slots) (hdg : decode cc pc = .ok (.invokestatic ix, 3)) (kk : V p l e R s m args below meth c nL L I cells slots Q (pc + 3) lv (.int (iI z) :: st)) : V p l e R s m args below meth c nL L I cells slots Q pc lv (.int (iI b) :: .int (iI a) :: st) := by
  intro H locs ls hI hS hl
  refine va_mmin C.1 C.2.1 (C.2.2.1.trans hl.1.symm) C.2.2.2.1 (C.2.2.2.2.1 _ hlink) (C.2.2.2.2.1 _ hstat) (C.2.2.2.2.1 _ hini) (C.2.2.2.2.1 _ hcode) hf hlo hc hs hdg ?_
  have hk := kk H locs ls hI hS hl
  subst hz
  by_cases h : b < a
  · rw [if_pos ((iI_lt hb ha).mpr h)]; rw [if_pos h] at hk; exact hk
  · rw [if_neg (fun h2 => h ((iI_lt hb ha).mp h2))]; rw [if_neg h] at hk; exact hk
theorem v_lsub {lv2 : List (Nat × Value)} (ks : List Nat) (h : lv_pick lv ks = lv2) (k : V p l e R s m args below meth c nL L I cells slots Q pc lv2 st) : V p l e R s m args below meth c nL L I cells slots Q pc lv st := fun H locs ls hI hS hl => k H locs ls hI hS (lv_sub hl ks h)
end VV
