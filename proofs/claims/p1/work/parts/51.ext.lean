/-! what is given at the start and never changes: words that only the tables decide, statics, constants, small Integers, texts -/
theorem e_nk_tab {w : Cond} (h : e_nk w = true) : w.onTables = true := by
  cases w <;> first | rfl | (simp only [e_nk, Bool.and_eq_true] at h; exact h.1)
theorem e_nk_warm {w : Cond} (h : e_nk w = true) {s U : State} (hW : s.WarmedH U.vm) (hZ : va_Nw w s) : va_Nw w U := by
  have face : w.keepsFace = true → va_Nw w U := fun hk => va_tabs (e_nk_tab h) (rfl : (s.setVm U.vm).vm = U.vm) (Cond.before_shiftedFace (args := #[]) (State.Shifted.of_warmed hW) w hk hZ)
  cases w with
  | fieldLinkNest a b c d e f => exact va_Nw.warmF hW hZ
  | methodLinkNest a b c d => exact va_Nw.warmM hW hZ
  | _ => exact face (by simp only [e_nk, Bool.and_eq_true] at h; exact h.2)
theorem va_AOA.moved {ty : FieldType} {u U : State} (hvm : u.vm.Alike U.vm) (h : va_AOA ty u) : va_AOA ty U := by
  have h2 : (Cond.arrayOver (.array ty)).before #[] (u.setVm U.vm) = true := by rw [Cond.arrayOver_setVmC hvm]; exact h
  exact h2
/-- the texts of exceptions -/
def wStr : List (String × Nat × String) := [("PitForge", 339, "no such block"), ("PitForge", 82, "no such rock"), ("PitForge", 346, "the block has been dug"), ("PitForge", 342, "out of range"), ("PitForge", 110, "no more samples"), ("PitForge", 162, "not greater than the price before"), ("PitForge", 165, "no more phases"), ("PitForge", 186, "no such kind"), ("PitForge", 188, "the number is out of range"), ("PitForge", 201, "the weeks are out of range"), ("PitForge", 349, "the block has not been dug"), ("PitForge", 236, "the plant had nothing yet"), ("PitForge", 259, "the model had nothing")]
/-- exceptions that another's handler doesn't take -/
def wNc : List (String × String) := [("java/lang/IllegalArgumentException", "java/lang/IndexOutOfBoundsException"), ("java/lang/IllegalStateException", "java/lang/IllegalArgumentException"), ("java/lang/IllegalStateException", "java/lang/IndexOutOfBoundsException"), ("java/lang/IndexOutOfBoundsException", "java/lang/IllegalArgumentException"), ("java/lang/UnsupportedOperationException", "java/lang/IllegalArgumentException"), ("java/lang/UnsupportedOperationException", "java/lang/IndexOutOfBoundsException"), ("java/util/NoSuchElementException", "java/lang/IndexOutOfBoundsException")]
/-- statics that hold a given thing: class, name, descriptor, its number -/
def wZr : List (String × String × String × Nat) := [("java/util/ArrayList", "DEFAULTCAPACITY_EMPTY_ELEMENTDATA", "[Ljava/lang/Object;", 0), ("PitForgeModel", "MOST", "[I", 2), ("PitForge$Numbers", "KINDS", "[C", 3), ("PitForge$Numbers", "MOST", "[I", 4), ("java/lang/Integer$IntegerCache", "cache", "[Ljava/lang/Integer;", 7)]
def wZi : List (String × String × String × Nat) := [("java/lang/String", "COMPACT_STRINGS", "Z", 1), ("java/lang/Integer$IntegerCache", "high", "I", 127)]
/-- given arrays of ints: their number, their type, what they hold -/
def wTi : List (Nat × FieldType × List Nat) := [(2, .int, [10, 10, 99, 99, 99, 99, 99]), (3, .char, [115, 112, 99, 108, 109, 114, 119]), (4, .int, [10, 10, 99, 99, 99, 99, 99]), (6, .byte, [115, 112, 99, 108, 109, 114, 119])]
def eE (X : eX) (A : Nat → Prop) (s : State) : Prop :=
  (∀ w ∈ wN, va_Nw w s) ∧ va_AO "java/lang/Object" s ∧ va_AOA .int s ∧ va_Mi "[Ljava/lang/Object;" (X.1 8) s ∧ va_Dc s ∧
  (∀ q ∈ wStr, ∃ a, vk_R q.1 q.2.1 q.2.2 a s) ∧ vx_Zq Bundle.tN "UNASSIGNED_STACK" Bundle.steD A s s.heap ∧ vx_Zq Bundle.tN "SUPPRESSED_SENTINEL" Bundle.listD A s s.heap ∧
  (∀ q ∈ wZr, va_Z q.1 q.2.1 q.2.2.1 (.ref (X.1 q.2.2.2)) A s s.heap) ∧ (∀ q ∈ wZi, va_Z q.1 q.2.1 q.2.2.1 (.int (nI q.2.2.2)) A s s.heap) ∧
  (∀ q ∈ wTi, va_T q.2.1 (X.1 q.1) q.2.2.length (fun j => .int (nI (q.2.2.getD j 0))) A s s.heap) ∧ va_T (.object "java/lang/Object") (X.1 0) 0 (fun _ => .null) A s s.heap ∧
  va_T (.object "java/lang/Integer") (X.1 7) 256 (fun j => .ref (X.1 (100 + j))) A s s.heap ∧ vb_C (fun k => X.1 (100 + k)) A s s.heap ∧
  vk_R "PitForgeModel" 159 "spclmrw" (X.1 5) s ∧ va_OF "java/lang/String" "value" "[B" (.ref (X.1 6)) (X.1 5) A s s.heap ∧ va_OF "java/lang/String" "coder" "B" (.int 0) (X.1 5) A s s.heap ∧ va_O "java/lang/String" (X.1 5) A s s.heap ∧ ∀ q ∈ wNc, va_Nc q.1 q.2 s
/-- .. it is so at a call, too -/
theorem eE.moved {X : eX} {A A' : Nat → Prop} {s U : State} (h : eE X A s) (hW : s.WarmedH U.vm) (hq : ∀ a : Nat, a < s.heap.size → ¬ A a → U.heap[a]? = s.heap[a]?) (hA : ∀ q, A' q → A q) : eE X A' U := by
  obtain ⟨h1, h2, h3, h4, h5, h6, h7, h8, h9, h10, h11, h12, h13, h14, h15, h16, h17, h18, h19⟩ := h
  have hv := hW.alike
  exact ⟨fun w hw => e_nk_warm (List.mem_filter.mp hw).2 hW (h1 w hw), va_AO.moved hv h2, va_AOA.moved hv h3, va_Mi.moved hv h4, va_Dc.moved hv h5, fun q hm => (h6 q hm).imp fun a ha => vk_R.warm hW ha,
    ((vx_Zq.moved hv h7).kept hq).narrow hA, ((vx_Zq.moved hv h8).kept hq).narrow hA, fun q hm => ((va_Z.moved hv (h9 q hm)).kept hq).narrow hA, fun q hm => ((va_Z.moved hv (h10 q hm)).kept hq).narrow hA,
    fun q hm => ((va_T.moved hv (h11 q hm)).kept hq).narrow hA, ((va_T.moved hv h12).kept hq).narrow hA, ((va_T.moved hv h13).kept hq).narrow hA, ((vb_C.moved hv h14).kept hq).narrow hA,
    vk_R.warm hW h15, ((va_OF.moved hv h16).kept hq).narrow hA, ((va_OF.moved hv h17).kept hq).narrow hA, ((va_O.moved hv h18).kept hq).narrow hA, fun q hm => va_Nc.moved hv (h19 q hm)⟩
