/-! the start: what the statement gives of it, as the machine wants it -/
theorem st_cls {args : Array Value} {s : State} (hts : ∀ w ∈ lw_tbl, w.before args s = true) : ∃ Dg : va_G, ∀ (c : Nat) (q : vw_C), vwCl[c]? = some q → u_Kn s q.1 q.2.1 q.2.2 (Dg.1 c) (Dg.2 c) := by
  have hG : ∀ w ∈ wG, w.before args s = true := fun w hw => hts w (List.mem_filter.mp hw).1
  have h : ∀ c : Nat, ∃ x : ClassId × (Nat → Nat), ∀ q : vw_C, vwCl[c]? = some q → u_Kn s q.1 q.2.1 q.2.2 x.1 x.2 := fun c => by
    match c with
    | 0 =>
      obtain ⟨a, b, h⟩ := u_known (n := 4) hG hin_0 (hts _ (tb2 _ (List.mem_of_getElem? (i := 223) rfl)))
      exact ⟨(a, b), fun q hq => by cases hq; exact h⟩
    | 1 =>
      obtain ⟨a, b, h⟩ := u_known (n := 1) hG hin_1 (hts _ (tb6 _ (List.mem_of_getElem? (i := 200) rfl)))
      exact ⟨(a, b), fun q hq => by cases hq; exact h⟩
    | 2 =>
      obtain ⟨a, b, h⟩ := u_known (n := 6) hG hin_2 (hts _ (tb2 _ (List.mem_of_getElem? (i := 150) rfl)))
      exact ⟨(a, b), fun q hq => by cases hq; exact h⟩
    | 3 =>
      obtain ⟨a, b, h⟩ := u_known (n := 4) hG hin_3 (hts _ (tb6 _ (List.mem_of_getElem? (i := 83) rfl)))
      exact ⟨(a, b), fun q hq => by cases hq; exact h⟩
    | 4 =>
      obtain ⟨a, b, h⟩ := u_known (n := 3) hG hin_4 (hts _ (tb5 _ (List.mem_of_getElem? (i := 44) rfl)))
      exact ⟨(a, b), fun q hq => by cases hq; exact h⟩
    | 5 =>
      obtain ⟨a, b, h⟩ := u_known (n := 7) hG hin_5 (hts _ (tb2 _ (List.mem_of_getElem? (i := 12) rfl)))
      exact ⟨(a, b), fun q hq => by cases hq; exact h⟩
    | 6 =>
      obtain ⟨a, b, h⟩ := u_known (n := 4) hG hin_6 (hts _ (tb1 _ (List.mem_of_getElem? (i := 53) rfl)))
      exact ⟨(a, b), fun q hq => by cases hq; exact h⟩
    | 7 =>
      obtain ⟨a, b, h⟩ := u_known (n := 1) hG hin_7 (hts _ (tb1 _ (List.mem_of_getElem? (i := 162) rfl)))
      exact ⟨(a, b), fun q hq => by cases hq; exact h⟩
    | 8 =>
      obtain ⟨a, b, h⟩ := u_known (n := 4) hG hin_8 (hts _ (tb1 _ (List.mem_of_getElem? (i := 75) rfl)))
      exact ⟨(a, b), fun q hq => by cases hq; exact h⟩
    | 9 =>
      obtain ⟨a, b, h⟩ := u_known (n := 6) hG hin_9 (hts _ (tb1 _ (List.mem_of_getElem? (i := 136) rfl)))
      exact ⟨(a, b), fun q hq => by cases hq; exact h⟩
    | 10 =>
      obtain ⟨a, b, h⟩ := u_known (n := 7) hG hin_10 (hts _ (tb1 _ (List.mem_of_getElem? (i := 172) rfl)))
      exact ⟨(a, b), fun q hq => by cases hq; exact h⟩
    | 11 =>
      obtain ⟨a, b, h⟩ := u_known (n := 10) hG hin_11 (hts _ (tb1 _ (List.mem_of_getElem? (i := 95) rfl)))
      exact ⟨(a, b), fun q hq => by cases hq; exact h⟩
    | 12 =>
      obtain ⟨a, b, h⟩ := u_known (n := 9) hG hin_12 (hts _ (tb1 _ (List.mem_of_getElem? (i := 201) rfl)))
      exact ⟨(a, b), fun q hq => by cases hq; exact h⟩
    | 13 =>
      obtain ⟨a, b, h⟩ := u_known (n := 1) hG hin_13 (hts _ (tb2 _ (List.mem_of_getElem? (i := 1) rfl)))
      exact ⟨(a, b), fun q hq => by cases hq; exact h⟩
    | 14 =>
      obtain ⟨a, b, h⟩ := u_known (n := 9) hG hin_14 (hts _ (tb1 _ (List.mem_of_getElem? (i := 45) rfl)))
      exact ⟨(a, b), fun q hq => by cases hq; exact h⟩
    | 15 =>
      obtain ⟨a, b, h⟩ := u_known (n := 5) hG hin_15 (hts _ (tb5 _ (List.mem_of_getElem? (i := 73) rfl)))
      exact ⟨(a, b), fun q hq => by cases hq; exact h⟩
    | 16 =>
      obtain ⟨a, b, h⟩ := u_known (n := 3) hG hin_16 (hts _ (tb6 _ (List.mem_of_getElem? (i := 226) rfl)))
      exact ⟨(a, b), fun q hq => by cases hq; exact h⟩
    | 17 =>
      obtain ⟨a, b, h⟩ := u_known (n := 2) hG hin_17 (hts _ (tb6 _ (List.mem_of_getElem? (i := 47) rfl)))
      exact ⟨(a, b), fun q hq => by cases hq; exact h⟩
    | 18 =>
      obtain ⟨a, b, h⟩ := u_known (n := 23) hG hin_18 (hts _ (tb5 _ (List.mem_of_getElem? (i := 38) rfl)))
      exact ⟨(a, b), fun q hq => by cases hq; exact h⟩
    | c + 19 => exact ⟨(0, fun _ => 0), fun q hq => by cases hq⟩
  obtain ⟨f, hf⟩ := Classical.axiomOfChoice h
  exact ⟨(fun c => (f c).1, fun c => (f c).2), hf⟩
theorem st_aoa {args : Array Value} {s : State} (h : (Cond.arrayOver (.array .int)).before args s = true) : ∃ (c : ClassId) (k : Class) (comp : ClassId), s.vm.classes[c]? = some k ∧ k.kind = .array comp (.array .int) ∧ s.vm.findClass ("[" ++ (FieldType.array .int).toString) = some c := by
  simp only [Cond.before, Cond.holds, Cond.value, beq_iff_eq] at h
  cases hc : s.vm.findClass (FieldType.array .int).toString with
  | none => simp [hc] at h
  | some comp =>
    simp only [hc, Option.bind_some, Option.bind_eq_some_iff, Option.map_eq_some_iff] at h
    obtain ⟨c, hi, k, hk, hb⟩ := h
    cases hkind : k.kind with
    | array component ty =>
      rw [hkind] at hb
      simp only [Bool.and_eq_true, decide_eq_true_eq] at hb
      exact ⟨c, k, component, hk, by rw [hkind, hb.1], hb.2⟩
    | _ => rw [hkind] at hb; simp at hb
theorem st_prim {args : Array Value} {s : State} {ty : FieldType} (h : (Cond.arrayClass ty).before args s = true) : ∃ c : ClassId, ArrOfT s c ty ∧ s.vm.findClass ("[" ++ ty.toString) = some c ∨ False := by
  obtain ⟨c, k, comp, h1, h2, h3⟩ := Cond.arrayClass_spec h
  exact ⟨c, Or.inl ⟨fun n z => ⟨(fun k h => by cases h), k, h2, comp, h3⟩, h1⟩⟩
theorem st_arr {args : Array Value} {s : State} (hts : ∀ w ∈ lw_tbl, w.before args s = true) : ∃ cA : Nat → ClassId, ∀ (k : Nat) (q : ClassId × FieldType), (TYs cA)[k]? = some q → ArrOfT s q.1 q.2 ∧ va_RA s q.1 q.2 := by
  obtain ⟨c0, k0, m0, n0, e0, d0⟩ := Cond.arrayClass_spec (hts (.arrayClass .int) (tb1 _ (List.mem_of_getElem? (i := 73) rfl)))
  obtain ⟨c1, k1, m1, n1, e1, d1⟩ := Cond.arrayClass_spec (hts (.arrayClass .boolean) (tb1 _ (List.mem_of_getElem? (i := 72) rfl)))
  obtain ⟨c2, k2, m2, n2, e2, d2⟩ := Cond.arrayClass_spec (hts (.arrayClass .char) (tb2 _ (List.mem_of_getElem? (i := 41) rfl)))
  obtain ⟨c3, k3, m3, n3, e3, d3⟩ := Cond.arrayClass_spec (hts (.arrayClass .long) (tb8 _ (List.mem_of_getElem? (i := 41) rfl)))
  obtain ⟨c4, k4, m4, n4, e4, d4⟩ := Cond.arrayClass_spec (hts (.arrayClass .double) (tb8 _ (List.mem_of_getElem? (i := 42) rfl)))
  obtain ⟨c5, k5, m5, n5, e5, d5⟩ := Cond.arrayClass_spec (hts (.arrayClass .byte) (tb2 _ (List.mem_of_getElem? (i := 224) rfl)))
  obtain ⟨c6, k6, m6, e6, d6, n6⟩ := st_aoa (hts _ (tb1 _ (List.mem_of_getElem? (i := 101) rfl)))
  obtain ⟨m7, c7, k7, f7, -, e7, d7, n7⟩ := Cond.arrayOver_spec (hts (.arrayOver (.object "java/lang/Object")) (tb5 _ (List.mem_of_getElem? (i := 161) rfl)))
  refine ⟨fun t => match t with
    | 0 => c0
    | 1 => c1
    | 2 => c2
    | 3 => c3
    | 4 => c4
    | 5 => c5
    | 6 => c6
    | 7 => c7
    | _ => c0, fun k q hq => ?_⟩
  match k, hq with
  | 0, hq => cases hq; exact ⟨fun n z => ⟨(fun k h => by cases h), k0, e0, m0, d0⟩, n0⟩
  | 1, hq => cases hq; exact ⟨fun n z => ⟨(fun k h => by cases h), k1, e1, m1, d1⟩, n1⟩
  | 2, hq => cases hq; exact ⟨fun n z => ⟨(fun k h => by cases h), k2, e2, m2, d2⟩, n2⟩
  | 3, hq => cases hq; exact ⟨fun n z => ⟨(fun k h => by cases h), k3, e3, m3, d3⟩, n3⟩
  | 4, hq => cases hq; exact ⟨fun n z => ⟨(fun k h => by cases h), k4, e4, m4, d4⟩, n4⟩
  | 5, hq => cases hq; exact ⟨fun n z => ⟨(fun k h => by cases h), k5, e5, m5, d5⟩, n5⟩
  | 6, hq => cases hq; exact ⟨fun n z => ⟨(fun k h => by cases h), k6, e6, m6, d6⟩, n6⟩
  | 7, hq => cases hq; exact ⟨fun n z => ⟨(fun k h => by cases h), k7, e7, m7, d7⟩, k7, m7, e7, d7, f7, n7⟩
  | k + 8, hq => cases hq
theorem st_str {args : Array Value} {s : State} {own tx : String} {k : Nat} (h1 : (Cond.stringRef own k tx).before args s = true) (h2 : (Cond.exactly (.string own k) "java/lang/String").before args s = true) : ∃ a, vk_R own k tx a s := by
  obtain ⟨a, c, cA, kA, q1, -⟩ := Cond.exactly_spec (args := args) (first := s) (o := none) (s := s) (idx := []) (t := .string own k) (cls := "java/lang/String") h2
  exact ⟨a, vk_R.of h1 q1⟩
def st_X (ad : Nat → Nat) (t0 t2 t3 t4 t5 t6 t7 t8 b k : Nat) : Nat := if 100 ≤ k then ad (k - 100) else match k with
  | 0 => t0
  | 2 => t2
  | 3 => t3
  | 4 => t4
  | 5 => t5
  | 6 => t6
  | 7 => t7
  | 8 => t8
  | _ => b
theorem st_Xad (ad : Nat → Nat) (t0 t2 t3 t4 t5 t6 t7 t8 b j : Nat) : st_X ad t0 t2 t3 t4 t5 t6 t7 t8 b (100 + j) = ad j := by
  unfold st_X
  rw [if_pos (by omega), show 100 + j - 100 = j by omega]
set_option maxRecDepth 4000 in
theorem st_all {b : Nat} {s : State} (hts : ∀ w ∈ lw_tbl, w.before #[.ref b] s = true) (hg : ∀ c ∈ flatC (Jvm.Cond.and given_1 narrow_1), c.before #[.ref b] s = true) : ∃ X1 : Nat → Nat, X1 9 = b ∧ ∀ X2 : Nat → Int32, eE (X1, X2) (fun q => s.heap.size ≤ q) s := by
  have hA : ∀ a : Nat, a < s.heap.size → ¬ s.heap.size ≤ a := fun a h => by omega
  obtain ⟨t2, e2, T2⟩ := va_Tof (args := #[.ref b]) (s := s) (tm := .static "PitForgeModel" "MOST" "[I") (ty := .int) (N := 7) (f := (fun j => .int (nI (([10, 10, 99, 99, 99, 99, 99] : List Nat).getD j 0)))) (A := fun q => s.heap.size ≤ q) (by decide) (hg _ (by decide +kernel)) (va_eqt (hg _ (by decide +kernel))) (fun j hj => by
    match j, hj with
    | 0, _ => exact va_eqt (hg _ (by decide +kernel))
    | 1, _ => exact va_eqt (hg _ (by decide +kernel))
    | 2, _ => exact va_eqt (hg _ (by decide +kernel))
    | 3, _ => exact va_eqt (hg _ (by decide +kernel))
    | 4, _ => exact va_eqt (hg _ (by decide +kernel))
    | 5, _ => exact va_eqt (hg _ (by decide +kernel))
    | 6, _ => exact va_eqt (hg _ (by decide +kernel))
    | j + 7, hj => omega) hA
  obtain ⟨t3, e3, T3⟩ := va_Tof (args := #[.ref b]) (s := s) (tm := .static "PitForge$Numbers" "KINDS" "[C") (ty := .char) (N := 7) (f := (fun j => .int (nI (([115, 112, 99, 108, 109, 114, 119] : List Nat).getD j 0)))) (A := fun q => s.heap.size ≤ q) (by decide) (hg _ (by decide +kernel)) (va_eqt (hg _ (by decide +kernel))) (fun j hj => by
    match j, hj with
    | 0, _ => exact va_eqt (hg _ (by decide +kernel))
    | 1, _ => exact va_eqt (hg _ (by decide +kernel))
    | 2, _ => exact va_eqt (hg _ (by decide +kernel))
    | 3, _ => exact va_eqt (hg _ (by decide +kernel))
    | 4, _ => exact va_eqt (hg _ (by decide +kernel))
    | 5, _ => exact va_eqt (hg _ (by decide +kernel))
    | 6, _ => exact va_eqt (hg _ (by decide +kernel))
    | j + 7, hj => omega) hA
  obtain ⟨t4, e4, T4⟩ := va_Tof (args := #[.ref b]) (s := s) (tm := .static "PitForge$Numbers" "MOST" "[I") (ty := .int) (N := 7) (f := (fun j => .int (nI (([10, 10, 99, 99, 99, 99, 99] : List Nat).getD j 0)))) (A := fun q => s.heap.size ≤ q) (by decide) (hg _ (by decide +kernel)) (va_eqt (hg _ (by decide +kernel))) (fun j hj => by
    match j, hj with
    | 0, _ => exact va_eqt (hg _ (by decide +kernel))
    | 1, _ => exact va_eqt (hg _ (by decide +kernel))
    | 2, _ => exact va_eqt (hg _ (by decide +kernel))
    | 3, _ => exact va_eqt (hg _ (by decide +kernel))
    | 4, _ => exact va_eqt (hg _ (by decide +kernel))
    | 5, _ => exact va_eqt (hg _ (by decide +kernel))
    | 6, _ => exact va_eqt (hg _ (by decide +kernel))
    | j + 7, hj => omega) hA
  obtain ⟨t6, e6, T6⟩ := va_Tof (args := #[.ref b]) (s := s) (tm := .field (.string "PitForgeModel" 159) "java/lang/String" "value" "[B") (ty := .byte) (N := 7) (f := (fun j => .int (nI (([115, 112, 99, 108, 109, 114, 119] : List Nat).getD j 0)))) (A := fun q => s.heap.size ≤ q) (by decide) (hg _ (by decide +kernel)) (va_eqt (hg _ (by decide +kernel))) (fun j hj => by
    match j, hj with
    | 0, _ => exact va_eqt (hg _ (by decide +kernel))
    | 1, _ => exact va_eqt (hg _ (by decide +kernel))
    | 2, _ => exact va_eqt (hg _ (by decide +kernel))
    | 3, _ => exact va_eqt (hg _ (by decide +kernel))
    | 4, _ => exact va_eqt (hg _ (by decide +kernel))
    | 5, _ => exact va_eqt (hg _ (by decide +kernel))
    | 6, _ => exact va_eqt (hg _ (by decide +kernel))
    | j + 7, hj => omega) hA
  obtain ⟨t0, e0, T0⟩ := va_Tof (args := #[.ref b]) (s := s) (tm := .static "java/util/ArrayList" "DEFAULTCAPACITY_EMPTY_ELEMENTDATA" "[Ljava/lang/Object;") (ty := (.object "java/lang/Object")) (N := 0) (f := (fun _ => .null)) (A := fun q => s.heap.size ≤ q) (by decide) (hg _ (by decide +kernel)) (va_eqt (hg _ (by decide +kernel))) (fun j hj => absurd hj (Nat.not_lt_zero j)) hA
  obtain ⟨t5, c5, cell5, k5, q1, q2, q3, q4, q5, q6, -⟩ := Cond.exactly_spec (args := #[.ref b]) (first := s) (o := none) (s := s) (idx := []) (t := .string "PitForgeModel" 159) (cls := "java/lang/String") (hg _ (by decide +kernel))
  obtain ⟨ad, C7, L7⟩ := vb_Cof (args := #[.ref b]) (s := s) (A := fun q => s.heap.size ≤ q) (st := .static "java/lang/Integer$IntegerCache" "cache" "[Ljava/lang/Integer;") rfl (va_eqt (hg _ (by decide +kernel))) (hg _ (by decide +kernel)) hA
  obtain ⟨t7, e7, T7⟩ := va_Tof (args := #[.ref b]) (s := s) (tm := .static "java/lang/Integer$IntegerCache" "cache" "[Ljava/lang/Integer;") (ty := .object "java/lang/Integer") (N := 256) (f := fun j => .ref (ad j)) (A := fun q => s.heap.size ≤ q) (by decide) (hg _ (by decide +kernel)) (va_eqt (hg _ (by decide +kernel))) L7 hA
  obtain ⟨t8, M8⟩ := va_Mi.of (C := "[Ljava/lang/Object;") (hg _ (by decide +kernel))
  refine ⟨st_X ad t0 t2 t3 t4 t5 t6 t7 t8 b, rfl, fun X2 => ⟨fun w hw => va_Nw.of (e_nk_tab (List.mem_filter.mp hw).2) (hts w (List.mem_filter.mp hw).1), va_AO.of (hts _ (tb5 _ (List.mem_of_getElem? (i := 161) rfl))), (show (Cond.arrayOver (.array .int)).before #[] s = true from (hts _ (tb1 _ (List.mem_of_getElem? (i := 101) rfl)))), M8, va_Dc.of (hts _ (tb8 _ (List.mem_of_getElem? (i := 73) rfl))), ?_, vx_Zqof (hts _ (tb2 _ (List.mem_of_getElem? (i := 167) rfl))) (hts _ (tb1 _ (List.mem_of_getElem? (i := 20) rfl))) (hg _ (by decide +kernel)) hA, vx_Zqof (hts _ (tb2 _ (List.mem_of_getElem? (i := 169) rfl))) (hts _ (tb1 _ (List.mem_of_getElem? (i := 20) rfl))) (hg _ (by decide +kernel)) hA, ?_, ?_, ?_, T0, ?_, ?_, vk_R.of (hts _ (tb7 _ (List.mem_of_getElem? (i := 69) rfl))) q1, vk_OFof q1 e6 hA, vk_OFof q1 (va_eqt (hg _ (by decide +kernel))) hA, ⟨cell5, q3, q5, by rw [q6]; exact q2, hA _ (Array.getElem?_eq_some_iff.mp q3).1⟩, ?_⟩⟩
  · exact (List.forall_mem_cons.mpr ⟨st_str (hts _ (tb3 _ (List.mem_of_getElem? (i := 8) rfl))) (hg _ (by decide +kernel)), (List.forall_mem_cons.mpr ⟨st_str (hts _ (tb3 _ (List.mem_of_getElem? (i := 21) rfl))) (hg _ (by decide +kernel)), (List.forall_mem_cons.mpr ⟨st_str (hts _ (tb3 _ (List.mem_of_getElem? (i := 42) rfl))) (hg _ (by decide +kernel)), (List.forall_mem_cons.mpr ⟨st_str (hts _ (tb3 _ (List.mem_of_getElem? (i := 69) rfl))) (hg _ (by decide +kernel)), (List.forall_mem_cons.mpr ⟨st_str (hts _ (tb3 _ (List.mem_of_getElem? (i := 83) rfl))) (hg _ (by decide +kernel)), (List.forall_mem_cons.mpr ⟨st_str (hts _ (tb4 _ (List.mem_of_getElem? (i := 20) rfl))) (hg _ (by decide +kernel)), (List.forall_mem_cons.mpr ⟨st_str (hts _ (tb4 _ (List.mem_of_getElem? (i := 25) rfl))) (hg _ (by decide +kernel)), (List.forall_mem_cons.mpr ⟨st_str (hts _ (tb4 _ (List.mem_of_getElem? (i := 72) rfl))) (hg _ (by decide +kernel)), (List.forall_mem_cons.mpr ⟨st_str (hts _ (tb4 _ (List.mem_of_getElem? (i := 73) rfl))) (hg _ (by decide +kernel)), (List.forall_mem_cons.mpr ⟨st_str (hts _ (tb4 _ (List.mem_of_getElem? (i := 89) rfl))) (hg _ (by decide +kernel)), (List.forall_mem_cons.mpr ⟨st_str (hts _ (tb4 _ (List.mem_of_getElem? (i := 205) rfl))) (hg _ (by decide +kernel)), (List.forall_mem_cons.mpr ⟨st_str (hts _ (tb4 _ (List.mem_of_getElem? (i := 234) rfl))) (hg _ (by decide +kernel)), (List.forall_mem_cons.mpr ⟨st_str (hts _ (tb5 _ (List.mem_of_getElem? (i := 24) rfl))) (hg _ (by decide +kernel)), (fun q h => absurd h List.not_mem_nil)⟩)⟩)⟩)⟩)⟩)⟩)⟩)⟩)⟩)⟩)⟩)⟩)⟩)
  · exact (List.forall_mem_cons.mpr ⟨va_Zref (hts _ (tb5 _ (List.mem_of_getElem? (i := 56) rfl))) (hts _ (tb1 _ (List.mem_of_getElem? (i := 14) rfl))) e0 hA, (List.forall_mem_cons.mpr ⟨va_Zref (hts _ (tb7 _ (List.mem_of_getElem? (i := 153) rfl))) (hts _ (tb1 _ (List.mem_of_getElem? (i := 11) rfl))) e2 hA, (List.forall_mem_cons.mpr ⟨va_Zref (hts _ (tb4 _ (List.mem_of_getElem? (i := 69) rfl))) (hts _ (tb1 _ (List.mem_of_getElem? (i := 6) rfl))) e3 hA, (List.forall_mem_cons.mpr ⟨va_Zref (hts _ (tb4 _ (List.mem_of_getElem? (i := 71) rfl))) (hts _ (tb1 _ (List.mem_of_getElem? (i := 6) rfl))) e4 hA, (List.forall_mem_cons.mpr ⟨va_Zref (hts _ (tb6 _ (List.mem_of_getElem? (i := 198) rfl))) (hts _ (tb1 _ (List.mem_of_getElem? (i := 38) rfl))) e7 hA, (fun q h => absurd h List.not_mem_nil)⟩)⟩)⟩)⟩)⟩)
  · exact (List.forall_mem_cons.mpr ⟨va_Zof (hts _ (tb7 _ (List.mem_of_getElem? (i := 83) rfl))) (hts _ (tb1 _ (List.mem_of_getElem? (i := 25) rfl))) (va_eqi (hg _ (by decide +kernel))) hA, (List.forall_mem_cons.mpr ⟨va_Zof (hts _ (tb6 _ (List.mem_of_getElem? (i := 196) rfl))) (hts _ (tb1 _ (List.mem_of_getElem? (i := 38) rfl))) (va_eqi (hg _ (by decide +kernel))) hA, (fun q h => absurd h List.not_mem_nil)⟩)⟩)
  · exact (List.forall_mem_cons.mpr ⟨T2, (List.forall_mem_cons.mpr ⟨T3, (List.forall_mem_cons.mpr ⟨T4, (List.forall_mem_cons.mpr ⟨T6, (fun q h => absurd h List.not_mem_nil)⟩)⟩)⟩)⟩)
  · simp only [st_Xad]
    exact T7
  · simp only [st_Xad]
    exact C7
  · exact (List.forall_mem_cons.mpr ⟨va_Nc.of (hg _ (by decide +kernel)), (List.forall_mem_cons.mpr ⟨va_Nc.of (hg _ (by decide +kernel)), (List.forall_mem_cons.mpr ⟨va_Nc.of (hg _ (by decide +kernel)), (List.forall_mem_cons.mpr ⟨va_Nc.of (hg _ (by decide +kernel)), (List.forall_mem_cons.mpr ⟨va_Nc.of (hg _ (by decide +kernel)), (List.forall_mem_cons.mpr ⟨va_Nc.of (hg _ (by decide +kernel)), (List.forall_mem_cons.mpr ⟨va_Nc.of (hg _ (by decide +kernel)), (fun q h => absurd h List.not_mem_nil)⟩)⟩)⟩)⟩)⟩)⟩)⟩)
