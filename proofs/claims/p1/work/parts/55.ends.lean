/-! ends, throws, handlers -/
def retV (i : Nat) (V : Value) : Prop := match i with
  | 1 => ∃ x, V = .int x
  | 2 => ∃ x, V = .long x
  | 3 => ∃ x, V = .double x
  | 4 => ∃ a, V = .ref a
  | 5 => ∃ x, V = .float x
  | 6 => V = .int (nI 0) ∨ V = .int (nI 1)
  | 7 => ∃ n, n < 65536 ∧ V = .int (nI n)
  | 8 => ∃ n, n < 128 ∧ V = .int (nI n)
  | _ => False
def okRet (D : eD) (pc i : Nat) : Prop := ∀ (p : Program) (l : Launch) (e : Env) (R : Room) (s : State) (m : MethodId) (args : Array Value) (below : List Frame) (meth : Method) (c : Code) (H : Heap) (locs : List Loc) (cells slots : Nat) (Qc : Array Value → State → Outcome → State → Prop) (XC : String → State → State → Prop) (mc ms : Nat) (free : Addr → Prop) (V : Value) (ls : Array Slot),
  eCx p s m args meth c D → retV i V → (∀ t : State, t.heap = H → s.WarmedH t.vm → Qc args s (.returned (some V)) t) → (∀ q ∈ locs, free q.base) → cells ≤ mc → slots ≤ ms → W p l e R s m args below meth c H locs cells slots (vx_MQ below Qc XC args s mc ms free) (F0 m pc ls [V])
def okRet0 (D : eD) (pc : Nat) : Prop := ∀ (p : Program) (l : Launch) (e : Env) (R : Room) (s : State) (m : MethodId) (args : Array Value) (below : List Frame) (meth : Method) (c : Code) (H : Heap) (locs : List Loc) (cells slots : Nat) (Qc : Array Value → State → Outcome → State → Prop) (XC : String → State → State → Prop) (mc ms : Nat) (free : Addr → Prop) (ls : Array Slot),
  eCx p s m args meth c D → (∀ t : State, t.heap = H → s.WarmedH t.vm → Qc args s (.returned none) t) → (∀ q ∈ locs, free q.base) → cells ≤ mc → slots ≤ ms → W p l e R s m args below meth c H locs cells slots (vx_MQ below Qc XC args s mc ms free) (F0 m pc ls [])
section OKR
variable {D : eD} {pc : Nat}
theorem okr_void (d : decode D.2.1 pc = .ok (.return_, 1)) (hr : D.2.2.2.1 = none) : okRet0 D pc :=
  fun _ _ _ _ _ _ _ _ _ _ _ _ _ _ _ _ _ _ _ _ ⟨hx, hb, _, hrt, _, _, hlk, _⟩ hq hf hc hs => W.widen hc hs (vx_ret (W.vret hx hb (hrt.trans hr) hq hf d hlk))
theorem okr_int (d : decode D.2.1 pc = .ok (.ireturn, 1)) (hr : D.2.2.2.1 = some .int) : okRet D pc 1 :=
  fun _ _ _ _ _ _ _ _ _ _ _ _ _ _ _ _ _ _ _ V _ ⟨hx, hb, _, hrt, _, _, hlk, _⟩ hv hq hf hc hs => by
    obtain ⟨x, rfl⟩ := hv
    exact W.widen hc hs (vx_ret (W.iret hx hb (hrt.trans hr) hq hf d hlk))
theorem okr_long (d : decode D.2.1 pc = .ok (.lreturn, 1)) (hr : D.2.2.2.1 = some .long) : okRet D pc 2 :=
  fun _ _ _ _ _ _ _ _ _ _ _ _ _ _ _ _ _ _ _ V _ ⟨hx, hb, _, hrt, _, _, hlk, _⟩ hv hq hf hc hs => by
    obtain ⟨x, rfl⟩ := hv
    exact W.widen hc hs (vx_ret (W.lret hx hb (hrt.trans hr) hq hf d hlk))
theorem okr_double (d : decode D.2.1 pc = .ok (.dreturn, 1)) (hr : D.2.2.2.1 = some .double) : okRet D pc 3 :=
  fun _ _ _ _ _ _ _ _ _ _ _ _ _ _ _ _ _ _ _ V _ ⟨hx, hb, _, hrt, _, _, hlk, _⟩ hv hq hf hc hs => by
    obtain ⟨x, rfl⟩ := hv
    exact W.widen hc hs (vx_ret (W.dret hx hb (hrt.trans hr) hq hf d hlk))
theorem okr_float (d : decode D.2.1 pc = .ok (.freturn, 1)) (hr : D.2.2.2.1 = some .float) : okRet D pc 5 :=
  fun _ _ _ _ _ _ _ _ _ _ _ _ _ _ _ _ _ _ _ V _ ⟨hx, hb, _, hrt, _, _, hlk, _⟩ hv hq hf hc hs => by
    obtain ⟨x, rfl⟩ := hv
    exact W.widen hc hs (vx_ret (W.fret hx hb (hrt.trans hr) hq hf d hlk))
theorem okr_ref {rt : FieldType} (d : decode D.2.1 pc = .ok (.areturn, 1)) (hr : D.2.2.2.1 = some rt) (hrt9 : (∃ n, rt = .object n) ∨ ∃ t, rt = .array t) : okRet D pc 4 :=
  fun _ _ _ _ _ _ _ _ _ _ _ _ _ _ _ _ _ _ _ V _ ⟨hx, hb, _, hrt, _, _, hlk, _⟩ hv hq hf hc hs => by
    exact W.widen hc hs (vx_ret (W.aret hx hb (hrt.trans hr) hrt9 (Or.inr hv) hq hf d hlk))
theorem okr_bool (d : decode D.2.1 pc = .ok (.ireturn, 1)) (hr : D.2.2.2.1 = some .boolean) : okRet D pc 6 :=
  fun _ _ _ _ _ _ _ _ _ _ _ _ _ _ _ _ _ _ _ V _ ⟨hx, hb, _, hrt, _, _, hlk, _⟩ hv hq hf hc hs => by
    rcases hv with rfl | rfl
    · exact W.widen hc hs (vx_ret (W.zret hx hb (hrt.trans hr) (by decide +kernel) hq hf d hlk))
    · exact W.widen hc hs (vx_ret (W.zret hx hb (hrt.trans hr) (by decide +kernel) hq hf d hlk))
theorem okr_char (d : decode D.2.1 pc = .ok (.ireturn, 1)) (hr : D.2.2.2.1 = some .char) : okRet D pc 7 :=
  fun _ _ _ _ _ _ _ _ _ _ _ _ _ _ _ _ _ _ _ V _ ⟨hx, hb, _, hrt, _, _, hlk, _⟩ hv hq hf hc hs => by
    obtain ⟨n, hn, rfl⟩ := hv
    exact W.widen hc hs (vx_ret (W.zret hx hb (hrt.trans hr) (pk_charN hn).1 hq hf d hlk))
theorem byte128 : ∀ n, n < 128 → narrow .byte (.int (nI n)) = .int (nI n) := by decide +kernel
theorem okr_byte (d : decode D.2.1 pc = .ok (.ireturn, 1)) (hr : D.2.2.2.1 = some .byte) : okRet D pc 8 :=
  fun _ _ _ _ _ _ _ _ _ _ _ _ _ _ _ _ _ _ _ V _ ⟨hx, hb, _, hrt, _, _, hlk, _⟩ hv hq hf hc hs => by
    obtain ⟨n, hn, rfl⟩ := hv
    exact W.widen hc hs (vx_ret (W.zret hx hb (hrt.trans hr) (byte128 n hn) hq hf d hlk))
end OKR
/-- the exceptions' names -/
def eName : Nat → String
  | 0 => "java/lang/IndexOutOfBoundsException"
  | 1 => "java/lang/IllegalArgumentException"
  | 2 => "java/lang/UnsupportedOperationException"
  | 3 => "java/lang/IllegalStateException"
  | 4 => "java/lang/ArithmeticException"
  | _ => "java/util/NoSuchElementException"
def eSup : List String := ["java/lang/RuntimeException", "java/lang/Exception"]
def okThrow (D : eD) (pc E : Nat) : Prop := ∀ (p : Program) (l : Launch) (e : Env) (R : Room) (s : State) (m : MethodId) (args : Array Value) (below : List Frame) (meth : Method) (c : Code) (H : Heap) (locs : List Loc) (cells slots : Nat) (X : eX) (A : Nat → Prop) (Qc : Array Value → State → Outcome → State → Prop) (XC : String → State → State → Prop) (mc ms : Nat) (free : Addr → Prop) (st : List Value) (ls : Array Slot),
  eCx p s m args meth c D → l.stackTraces = false → eE X A s → va_S A s.heap H locs → ls.size = D.2.2.1 → 8 ≤ R.frames → (st.map fun v => v.category).sum + 120 ≤ R.locals → cells + 1 ≤ R.cells → slots + 6 ≤ R.slots →
  (∀ t : State, s.vm.Alike t.vm → H.size ≤ t.heap.size → (∀ q : Nat, q < H.size → t.heap[q]? = H[q]?) → XC (eName E) s t) → (∀ q ∈ locs, free q.base) → cells + 1 ≤ mc → slots + 6 ≤ ms → W p l e R s m args below meth c H locs cells slots (vx_MQ below Qc XC args s mc ms free) (F0 m pc ls st)
theorem okt_throw {D : eD} {pc E ik is ic : Nat} {text : String} (hh : D.2.2.2.2 = []) (hcls : Bundle.fit (eName E) = true) (hk : Cond.classLink D.1.cls ik (eName E) ∈ wG) (hi : Cond.initialized (eName E) ∈ wG) (hst : (D.1.cls, is, text) ∈ wStr) (hat : ∀ w ∈ vx_atS D.1.cls ic (eName E) eSup, w ∈ wG ∨ w ∈ wN)
    (d0 : decode D.2.1 pc = .ok (.new ik, 3)) (d3 : decode D.2.1 (pc + 3) = .ok (.dup, 1)) (d4 : decode D.2.1 (pc + 4) = .ok (.ldc is, 2)) (d6 : decode D.2.1 (pc + 6) = .ok (.invokespecial ic, 3)) (d9 : decode D.2.1 (pc + 9) = .ok (.athrow, 1)) : okThrow D pc E :=
  fun p l e R s m args below meth c H locs cells slots X A Qc XC mc ms free st ls ⟨hx, hb, hml, _, ht, ho, hlk, _, hN, htab⟩ hl hE hS hsz hfr hlo hc hs hX hf hc2 hs2 => by
    obtain ⟨sa, hsa⟩ := hE.2.2.2.2.2.1 _ hst
    have hot : ∀ w ∈ wG, vx_ot w = true := fun w hw => by
      unfold vx_ot
      rw [(List.mem_filter.mp hw).2, Bool.or_true]
    have hotN : ∀ w ∈ wN, vx_ot w = true := fun w hw => by
      unfold vx_ot
      rw [e_nk_tab (List.mem_filter.mp hw).2, Bool.true_or]
    refine vx_throwS (cls := eName E) (names := eSup) (ik := ik) (is := is) (ic := ic) (A := A) hx hb hl ho hcls (by decide +kernel) (ht _ hk) (ht _ hi) hsa (fun w hw => (hat w hw).elim (ht w) (fun h => va_Nw.use (e_nk_tab (List.mem_filter.mp h).2) (hN w h))) (List.forall_mem_cons.mpr ⟨hot _ hk, List.forall_mem_cons.mpr ⟨hot _ hi, fun w hw => (hat w hw).elim (hot w) (hotN w)⟩⟩)
      hE.2.2.2.2.2.2.1 hE.2.2.2.2.2.2.2.1 hS (hsz.trans hml.symm) d0 d3 d4 d6 d9 (fun x hx9 => ?_) (by show 2 + 3 < _; omega) (by show _ + (13 * (2 + 1) + 43) ≤ _; omega) hc hs hlk hX hf hc2 hs2
    rw [htab, hh] at hx9
    exact absurd hx9 List.not_mem_nil
theorem lv_tail {ls : Array Slot} {n : Nat} {a : Nat × Value} {l : List (Nat × Value)} (h : lv_has ls n (a :: l)) : lv_has ls n l := ⟨h.1, h.2.1, fun q hq => h.2.2 q (List.mem_cons_of_mem _ hq)⟩
def okCatch (D : eD) (pc E k nx : Nat) : Prop := ∀ (p : Program) (l : Launch) (e : Env) (R : Room) (s : State) (m : MethodId) (args : Array Value) (below : List Frame) (meth : Method) (c : Code) (H : Heap) (locs : List Loc) (cells slots : Nat) (Q : State → Prop) (X : eX) (A : Nat → Prop) (q : Nat) (ce : Cell) (lv : List (Nat × Value)) (ls : Array Slot) (rest : List Value),
  eCx p s m args meth c D → eE X A s → H[q]? = some ce → ce.vm = .none → s.vm.findClass (eName E) = some ce.cls → lv_has ls D.2.2.1 lv → (∀ ls' : Array Slot, lv_has ls' D.2.2.1 (lv.filter (fun q => !(q.1 == k) && !(q.1 + 1 == k && q.2.category == 2))) → W p l e R s m args below meth c H locs cells slots Q (F0 m nx ls' [])) → vx_W p l e R s m args below meth c H locs cells slots Q (F0 m pc ls rest) q
theorem okt_catch {D : eD} {pc E k nx : Nat} (pre : List (Nat × Nat × Nat × Nat)) (x : Nat × Nat × Nat × Nat) (suf : List (Nat × Nat × Nat × Nat)) (hh : D.2.2.2.2 = pre ++ x :: suf) (hpass : ∀ z ∈ pre, z.2.2.2 ≠ 0 ∧ ∃ nm, Cond.classLink D.1.cls z.2.2.2 nm ∈ wG ∧ (eName E, nm) ∈ wNc) (hcov : covers ⟨x.1, x.2.1, x.2.2.1, x.2.2.2⟩ pc = true) (h0 : x.2.2.2 ≠ 0)
    (hl : Cond.classLink D.1.cls x.2.2.2 (eName E) ∈ wG) (hca : Cond.castable (eName E) (eName E) ∈ wN) (hst : okStore1 D x.2.2.1 nx 1 k) : okCatch D pc E k nx :=
  fun p l e R s m args below meth c H locs cells slots Q X A q ce lv ls rest hC hE hcell hv hcl hls kk => by
    obtain ⟨hx, hb, hml, _, ht, ho, hlk, _, hN, htab⟩ := id hC
    refine vx_catch (own := D.1.cls) (name := eName E) (E := eName E) ho (tableOf pre) ⟨x.1, x.2.1, x.2.2.1, x.2.2.2⟩ (tableOf suf) ?_ ?_ hcov h0 (ht _ hl) (va_Nw.use (e_nk_tab (List.mem_filter.mp hca).2) (hN _ hca)) hcell hv hcl ?_
    · rw [htab, hh]
      unfold tableOf
      rw [List.map_append, List.map_cons]
    · intro z hz
      obtain ⟨z9, hz9, rfl⟩ := List.mem_map.mp hz
      obtain ⟨h1, nm, h2, h3⟩ := hpass z9 hz9
      exact Or.inr ⟨h1, nm, ht _ h2, hE.2.2.2.2.2.2.2.2.2.2.2.2.2.2.2.2.2.2 _ h3⟩
    · exact hst ls lv [] (.ref q) ⟨q, rfl⟩ hls p l e R s m args below meth c H locs cells slots Q hC (fun ls' h => kk ls' (lv_tail h))
