/-! what an instruction does, said of every frame of its method: the simple ones -/
/-- the words that a change of the state leaves: every method's list is these, behind its own code -/
def wG : List Cond := lw_tbl.filter goodWord
def e_nk : Cond → Bool
  | .fieldLinkNest .. => true
  | .methodLinkNest .. => true
  | w => w.onTables && w.keepsFace
/-- words that the tables alone decide, and what else a change of the state leaves -/
def wN : List Cond := lw_tbl.filter e_nk
/-- a method: its name, its bytes, its locals, what it answers, its handlers -/
abbrev eD : Type := MethodName × ByteArray × Nat × Option FieldType × List (Nat × Nat × Nat × Nat)
def eCx (p : Program) (s : State) (m : MethodId) (args : Array Value) (meth : Method) (c : Code) (D : eD) : Prop :=
  p.tables.exec = Jvm.exec ∧ c.code = D.2.1 ∧ c.maxLocals = D.2.2.1 ∧ meth.sig.returnType = D.2.2.2.1 ∧ (∀ w ∈ wG, w.before args s = true) ∧ s.vm.findClass D.1.cls = some m.cls ∧ meth.locks = false ∧ meth.name = D.1.name ∧ (∀ w ∈ wN, va_Nw w s) ∧ c.exceptionTable.toList = tableOf D.2.2.2.2
def eStp (D : eD) (f g : MethodId → JFrame) : Prop :=
  ∀ (p : Program) (l : Launch) (e : Env) (R : Room) (s : State) (m : MethodId) (args : Array Value) (below : List Frame) (meth : Method) (c : Code) (H : Heap) (locs : List Loc) (cells slots : Nat) (Q : State → Prop), eCx p s m args meth c D → W p l e R s m args below meth c H locs cells slots Q (g m) → W p l e R s m args below meth c H locs cells slots Q (f m)
/-- .. with new locals -/
def eStpL (D : eD) (f : MethodId → JFrame) (nx : Nat) (st : List Value) (lv : List (Nat × Value)) : Prop :=
  ∀ (p : Program) (l : Launch) (e : Env) (R : Room) (s : State) (m : MethodId) (args : Array Value) (below : List Frame) (meth : Method) (c : Code) (H : Heap) (locs : List Loc) (cells slots : Nat) (Q : State → Prop), eCx p s m args meth c D → (∀ ls : Array Slot, lv_has ls D.2.2.1 lv → W p l e R s m args below meth c H locs cells slots Q (F0 m nx ls st)) → W p l e R s m args below meth c H locs cells slots Q (f m)
/-- .. one way or the other -/
def eStpC (D : eD) (P : Prop) (f g h : MethodId → JFrame) : Prop :=
  ∀ (p : Program) (l : Launch) (e : Env) (R : Room) (s : State) (m : MethodId) (args : Array Value) (below : List Frame) (meth : Method) (c : Code) (H : Heap) (locs : List Loc) (cells slots : Nat) (Q : State → Prop), eCx p s m args meth c D → (P → W p l e R s m args below meth c H locs cells slots Q (g m)) → (¬ P → W p l e R s m args below meth c H locs cells slots Q (h m)) → W p l e R s m args below meth c H locs cells slots Q (f m)
def kV (i : Nat) (V : Value) : Prop := match i with
  | 0 => ∃ x, V = .int x
  | 1 => ∃ x, V = .ref x
  | 2 => ∃ x, V = .long x
  | 3 => ∃ x, V = .double x
  | _ => False
def okPush (D : eD) (pc nx : Nat) (V : Value) : Prop := ∀ (ls : Array Slot) (st : List Value), eStp D (fun m => F0 m pc ls st) (fun m => F0 m nx ls (V :: st))
def okLoad (D : eD) (pc nx i a : Nat) : Prop := ∀ (ls : Array Slot) (st : List Value) (V : Value), kV i V → ls[a]? = some (.val V) → eStp D (fun m => F0 m pc ls st) (fun m => F0 m nx ls (V :: st))
def okStore1 (D : eD) (pc nx i a : Nat) : Prop := ∀ (ls : Array Slot) (lv : List (Nat × Value)) (st : List Value) (V : Value), kV i V → lv_has ls D.2.2.1 lv → eStpL D (fun m => F0 m pc ls (V :: st)) nx st ((a, V) :: lv.filter (fun q => !(q.1 == a) && !(q.1 + 1 == a && q.2.category == 2)))
def okStore2 (D : eD) (pc nx i a : Nat) : Prop := ∀ (ls : Array Slot) (lv : List (Nat × Value)) (st : List Value) (V : Value), kV i V → lv_has ls D.2.2.1 lv → eStpL D (fun m => F0 m pc ls (V :: st)) nx st ((a, V) :: lv.filter (fun q => !(q.1 == a) && (!(q.1 == a + 1) && !(q.1 + 1 == a && q.2.category == 2))))
def okIinc (D : eD) (pc nx a b : Nat) : Prop := ∀ (ls : Array Slot) (lv : List (Nat × Value)) (st : List Value) (x : Int32), lv_has ls D.2.2.1 lv → (a, Value.int x) ∈ lv → eStpL D (fun m => F0 m pc ls st) nx st ((a, .int (x + nI b)) :: lv.filter (fun q => !(q.1 == a) && !(q.1 + 1 == a && q.2.category == 2)))
def okDup (D : eD) (pc nx : Nat) : Prop := ∀ (ls : Array Slot) (st : List Value) (V : Value), V.category = 1 → eStp D (fun m => F0 m pc ls (V :: st)) (fun m => F0 m nx ls (V :: V :: st))
def okPop (D : eD) (pc nx : Nat) : Prop := ∀ (ls : Array Slot) (st : List Value) (V : Value), V.category = 1 → eStp D (fun m => F0 m pc ls (V :: st)) (fun m => F0 m nx ls st)
def okDupX (D : eD) (pc nx : Nat) : Prop := ∀ (ls : Array Slot) (st : List Value) (V U : Value), V.category = 1 → U.category = 1 → eStp D (fun m => F0 m pc ls (V :: U :: st)) (fun m => F0 m nx ls (V :: U :: V :: st))
def okGoto (D : eD) (pc nx : Nat) : Prop := ∀ (ls : Array Slot) (st : List Value), eStp D (fun m => F0 m pc ls st) (fun m => F0 m nx ls st)
def okBin (D : eD) (pc nx i : Nat) : Prop := ∀ (ls : Array Slot) (st : List Value) (x y r : Int32), e_binR i x y r → eStp D (fun m => F0 m pc ls (.int y :: .int x :: st)) (fun m => F0 m nx ls (.int r :: st))
def okUn (D : eD) (pc nx i : Nat) : Prop := ∀ (ls : Array Slot) (st : List Value) (x r : Int32), e_unR i x r → eStp D (fun m => F0 m pc ls (.int x :: st)) (fun m => F0 m nx ls (.int r :: st))
def okIf (D : eD) (pc nx tgt i : Nat) : Prop := ∀ (ls : Array Slot) (st : List Value) (x : Int32), eStpC D (e_condR i x 0) (fun m => F0 m pc ls (.int x :: st)) (fun m => F0 m tgt ls st) (fun m => F0 m nx ls st)
def okIcmp (D : eD) (pc nx tgt i : Nat) : Prop := ∀ (ls : Array Slot) (st : List Value) (x y : Int32), eStpC D (e_condR i x y) (fun m => F0 m pc ls (.int y :: .int x :: st)) (fun m => F0 m tgt ls st) (fun m => F0 m nx ls st)
def okLbin (D : eD) (pc nx i : Nat) : Prop := ∀ (ls : Array Slot) (st : List Value) (x y : Int64) (V : Value), e_lbinR i x y V → eStp D (fun m => F0 m pc ls (.long y :: .long x :: st)) (fun m => F0 m nx ls (V :: st))
def okRw (D : eD) (pc nx : Nat) (a b : List Value) : Prop := ∀ (ls : Array Slot) (st : List Value), eStp D (fun m => F0 m pc ls (a ++ st)) (fun m => F0 m nx ls (b ++ st))
def okI2l (D : eD) (pc nx : Nat) : Prop := ∀ x : Int32, okRw D pc nx [.int x] [.long x.toInt64]
section OKS
variable {D : eD} {pc nx a b i : Nat}
theorem okc_iconst {n : Int} (d : decode D.2.1 pc = .ok (.iconst n, 1)) (hv : Int32.ofInt n = nI a) : okPush D pc (pc + 1) (.int (nI a)) := fun _ _ _ _ _ _ _ _ _ _ _ _ _ _ _ _ _ ⟨hx, hb, _⟩ k => lv_iconst hx hb d hv k
theorem okc_bipush {n : Int} (d : decode D.2.1 pc = .ok (.bipush n, 2)) (hv : (Int8.ofInt n).toInt32 = nI a) : okPush D pc (pc + 2) (.int (nI a)) := fun _ _ _ _ _ _ _ _ _ _ _ _ _ _ _ _ _ ⟨hx, hb, _⟩ k => lv_bipush hx hb d hv k
theorem okc_sipush {n : Int} (d : decode D.2.1 pc = .ok (.sipush n, 3)) (hv : (Int16.ofInt n).toInt32 = nI a) : okPush D pc (pc + 3) (.int (nI a)) := fun _ _ _ _ _ _ _ _ _ _ _ _ _ _ _ _ _ ⟨hx, hb, _⟩ k => lv_sipush hx hb d hv k
theorem okc_ldc {x : Nat} (d : decode D.2.1 pc = .ok (.ldc x, 2)) (hw : Cond.constant D.1.cls x (nI a) ∈ wG) : okPush D pc (pc + 2) (.int (nI a)) := fun _ _ _ _ _ _ _ _ _ _ _ _ _ _ _ _ _ ⟨hx, hb, _, _, ht, ho, _⟩ k => lv_ldc hx hb ho (ht _ hw) d k
theorem okc_ldcw {x : Nat} (d : decode D.2.1 pc = .ok (.ldc_w x, 3)) (hw : Cond.constant D.1.cls x (nI a) ∈ wG) : okPush D pc (pc + 3) (.int (nI a)) := fun _ _ _ _ _ _ _ _ _ _ _ _ _ _ _ _ _ ⟨hx, hb, _, _, ht, ho, _⟩ k => lv_ldcw hx hb ho (ht _ hw) d k
theorem okc_lconst {n : Fin 2} (d : decode D.2.1 pc = .ok (.lconst n, 1)) (hv : Int64.ofNat (n : Nat) = lN a) : okPush D pc (pc + 1) (.long (lN a)) := fun _ _ _ _ _ _ _ _ _ _ _ _ _ _ _ _ _ ⟨hx, hb, _⟩ k => lv_lconst hx hb d hv k
theorem okc_ldc2 {x : Nat} (d : decode D.2.1 pc = .ok (.ldc2_w x, 3)) (hw : Cond.constantLong D.1.cls x (lN a) ∈ wG) : okPush D pc (pc + 3) (.long (lN a)) := fun _ _ _ _ _ _ _ _ _ _ _ _ _ _ _ _ _ ⟨hx, hb, _, _, ht, ho, _⟩ k => lv_ldc2 hx hb ho (ht _ hw) d k
theorem okc_ldc2d {x : Nat} (d : decode D.2.1 pc = .ok (.ldc2_w x, 3)) (hw : Cond.constantDouble D.1.cls x (UInt64.ofNat a) ∈ wG) : okPush D pc (pc + 3) (.double (UInt64.ofNat a)) := fun _ _ _ _ _ _ _ _ _ _ _ _ _ _ _ _ _ ⟨hx, hb, _, _, ht, ho, _⟩ k => lv_ldc2d hx hb ho (ht _ hw) d k
theorem okc_ldcf {x : Nat} (d : decode D.2.1 pc = .ok (.ldc x, 2)) (hw : Cond.constantFloat D.1.cls x (UInt32.ofNat a) ∈ wG) : okPush D pc (pc + 2) (.float (UInt32.ofNat a)) := fun _ _ _ _ _ _ _ _ _ _ _ _ _ _ _ _ _ ⟨hx, hb, _, _, ht, ho, _⟩ k => lv_ldcf hx hb ho (ht _ hw) d k
theorem okc_dconst0 (d : decode D.2.1 pc = .ok (.dconst 0, 1)) : okPush D pc (pc + 1) (.double (UInt64.ofNat 0)) := fun _ _ _ _ _ _ _ _ _ _ _ _ _ _ _ _ _ ⟨hx, hb, _⟩ k => lv_dconst0 hx hb d k
theorem okc_null (d : decode D.2.1 pc = .ok (.aconst_null, 1)) : okPush D pc (pc + 1) .null := fun _ _ _ _ _ _ _ _ _ _ _ _ _ _ _ _ _ ⟨hx, hb, _⟩ k => lv_null hx hb d k
theorem okl_iload_n {k : Fin 4} (d : decode D.2.1 pc = .ok (.iload_n k, 1)) (hi : (k : Nat) = a) : okLoad D pc (pc + 1) 0 a := fun _ _ _ ⟨_, hv⟩ hl _ _ _ _ _ _ _ _ _ _ _ _ _ _ _ ⟨hx, hb, _⟩ kk => by subst hv; exact lv_iload_n hx hb d hi hl kk
theorem okl_iload (d : decode D.2.1 pc = .ok (.iload a, 2)) : okLoad D pc (pc + 2) 0 a := fun _ _ _ ⟨_, hv⟩ hl _ _ _ _ _ _ _ _ _ _ _ _ _ _ _ ⟨hx, hb, _⟩ kk => by subst hv; exact lv_iload hx hb d hl kk
theorem okl_aload_n {k : Fin 4} (d : decode D.2.1 pc = .ok (.aload_n k, 1)) (hi : (k : Nat) = a) : okLoad D pc (pc + 1) 1 a := fun _ _ _ ⟨_, hv⟩ hl _ _ _ _ _ _ _ _ _ _ _ _ _ _ _ ⟨hx, hb, _⟩ kk => by subst hv; exact lv_aload_n hx hb d hi hl kk
theorem okl_aload (d : decode D.2.1 pc = .ok (.aload a, 2)) : okLoad D pc (pc + 2) 1 a := fun _ _ _ ⟨_, hv⟩ hl _ _ _ _ _ _ _ _ _ _ _ _ _ _ _ ⟨hx, hb, _⟩ kk => by subst hv; exact lv_aload hx hb d hl kk
theorem okl_lload_n {k : Fin 4} (d : decode D.2.1 pc = .ok (.lload_n k, 1)) (hi : (k : Nat) = a) : okLoad D pc (pc + 1) 2 a := fun _ _ _ ⟨_, hv⟩ hl _ _ _ _ _ _ _ _ _ _ _ _ _ _ _ ⟨hx, hb, _⟩ kk => by subst hv; exact lv_lload_n hx hb d hi hl kk
theorem okl_lload (d : decode D.2.1 pc = .ok (.lload a, 2)) : okLoad D pc (pc + 2) 2 a := fun _ _ _ ⟨_, hv⟩ hl _ _ _ _ _ _ _ _ _ _ _ _ _ _ _ ⟨hx, hb, _⟩ kk => by subst hv; exact lv_lload hx hb d hl kk
theorem okl_dload_n {k : Fin 4} (d : decode D.2.1 pc = .ok (.dload_n k, 1)) (hi : (k : Nat) = a) : okLoad D pc (pc + 1) 3 a := fun _ _ _ ⟨_, hv⟩ hl _ _ _ _ _ _ _ _ _ _ _ _ _ _ _ ⟨hx, hb, _⟩ kk => by subst hv; exact lv_dload_n hx hb d hi hl kk
theorem okl_dload (d : decode D.2.1 pc = .ok (.dload a, 2)) : okLoad D pc (pc + 2) 3 a := fun _ _ _ ⟨_, hv⟩ hl _ _ _ _ _ _ _ _ _ _ _ _ _ _ _ ⟨hx, hb, _⟩ kk => by subst hv; exact lv_dload hx hb d hl kk
theorem oks_istore_n {k : Fin 4} (d : decode D.2.1 pc = .ok (.istore_n k, 1)) (hi : (k : Nat) = a) (hn : a < D.2.2.1) : okStore1 D pc (pc + 1) 0 a := fun _ _ _ _ ⟨_, hv⟩ hl _ _ _ _ _ _ _ _ _ _ _ _ _ _ _ ⟨hx, hb, _⟩ kk => by subst hv; exact lv_istore_n hx hb d hi hl hn rfl kk
theorem oks_istore (d : decode D.2.1 pc = .ok (.istore a, 2)) (hn : a < D.2.2.1) : okStore1 D pc (pc + 2) 0 a := fun _ _ _ _ ⟨_, hv⟩ hl _ _ _ _ _ _ _ _ _ _ _ _ _ _ _ ⟨hx, hb, _⟩ kk => by subst hv; exact lv_istore hx hb d hl hn rfl kk
theorem oks_astore_n {k : Fin 4} (d : decode D.2.1 pc = .ok (.astore_n k, 1)) (hi : (k : Nat) = a) (hn : a < D.2.2.1) : okStore1 D pc (pc + 1) 1 a := fun _ _ _ _ ⟨_, hv⟩ hl _ _ _ _ _ _ _ _ _ _ _ _ _ _ _ ⟨hx, hb, _⟩ kk => by subst hv; exact lv_astore_n hx hb d hi hl hn rfl kk
theorem oks_astore (d : decode D.2.1 pc = .ok (.astore a, 2)) (hn : a < D.2.2.1) : okStore1 D pc (pc + 2) 1 a := fun _ _ _ _ ⟨_, hv⟩ hl _ _ _ _ _ _ _ _ _ _ _ _ _ _ _ ⟨hx, hb, _⟩ kk => by subst hv; exact lv_astore hx hb d hl hn rfl kk
theorem oks_lstore_n {k : Fin 4} (d : decode D.2.1 pc = .ok (.lstore_n k, 1)) (hi : (k : Nat) = a) (hn : a + 1 < D.2.2.1) : okStore2 D pc (pc + 1) 2 a := fun _ _ _ _ ⟨_, hv⟩ hl _ _ _ _ _ _ _ _ _ _ _ _ _ _ _ ⟨hx, hb, _⟩ kk => by subst hv; exact lv_lstore_n hx hb d hi hl hn rfl kk
theorem oks_lstore (d : decode D.2.1 pc = .ok (.lstore a, 2)) (hn : a + 1 < D.2.2.1) : okStore2 D pc (pc + 2) 2 a := fun _ _ _ _ ⟨_, hv⟩ hl _ _ _ _ _ _ _ _ _ _ _ _ _ _ _ ⟨hx, hb, _⟩ kk => by subst hv; exact lv_lstore hx hb d hl hn rfl kk
theorem oks_dstore_n {k : Fin 4} (d : decode D.2.1 pc = .ok (.dstore_n k, 1)) (hi : (k : Nat) = a) (hn : a + 1 < D.2.2.1) : okStore2 D pc (pc + 1) 3 a := fun _ _ _ _ ⟨_, hv⟩ hl _ _ _ _ _ _ _ _ _ _ _ _ _ _ _ ⟨hx, hb, _⟩ kk => by subst hv; exact lv_dstore_n hx hb d hi hl hn rfl kk
theorem oks_dstore (d : decode D.2.1 pc = .ok (.dstore a, 2)) (hn : a + 1 < D.2.2.1) : okStore2 D pc (pc + 2) 3 a := fun _ _ _ _ ⟨_, hv⟩ hl _ _ _ _ _ _ _ _ _ _ _ _ _ _ _ ⟨hx, hb, _⟩ kk => by subst hv; exact lv_dstore hx hb d hl hn rfl kk
theorem oki_iinc {n : Int} (d : decode D.2.1 pc = .ok (.iinc a n, 3)) (hv : Int32.ofInt n = nI b) (hn : a < D.2.2.1) : okIinc D pc (pc + 3) a b := fun _ _ _ _ hl hm _ _ _ _ _ _ _ _ _ _ _ _ _ _ _ ⟨hx, hb, _⟩ kk => by
  obtain ⟨k, hk⟩ := List.getElem?_of_mem hm
  exact lv_iinc hx hb d hl hk (by rw [hv]) hn rfl kk
theorem oki_dup (d : decode D.2.1 pc = .ok (.dup, 1)) : okDup D pc (pc + 1) := fun _ _ _ hc _ _ _ _ _ _ _ _ _ _ _ _ _ _ _ ⟨hx, hb, _⟩ k => lv_dup hx hb d hc k
theorem oki_pop (d : decode D.2.1 pc = .ok (.pop, 1)) : okPop D pc (pc + 1) := fun _ _ _ hc _ _ _ _ _ _ _ _ _ _ _ _ _ _ _ ⟨hx, hb, _⟩ k => lv_pop hx hb d hc k
theorem oki_dup_x1 (d : decode D.2.1 pc = .ok (.dup_x1, 1)) : okDupX D pc (pc + 1) := fun _ _ _ _ hc hc2 _ _ _ _ _ _ _ _ _ _ _ _ _ _ _ ⟨hx, hb, _⟩ k => lv_dup_x1 hx hb d hc hc2 k
theorem oki_goto {off : Int} (d : decode D.2.1 pc = .ok (.goto off, 3)) (ht : (pc : Int) + off = (nx : Int)) : okGoto D pc nx := fun _ _ _ _ _ _ _ _ _ _ _ _ _ _ _ _ _ ⟨hx, hb, _⟩ k => lv_goto hx hb d ht k
theorem okb_iadd (d : decode D.2.1 pc = .ok (.iadd, 1)) : okBin D pc (pc + 1) 0 := fun _ _ _ _ _ hr _ _ _ _ _ _ _ _ _ _ _ _ _ _ _ ⟨hx, hb, _⟩ k => by cases hr; exact lv_iadd hx hb d k
theorem okb_isub (d : decode D.2.1 pc = .ok (.isub, 1)) : okBin D pc (pc + 1) 1 := fun _ _ _ _ _ hr _ _ _ _ _ _ _ _ _ _ _ _ _ _ _ ⟨hx, hb, _⟩ k => by cases hr; exact lv_isub hx hb d k
theorem okb_imul (d : decode D.2.1 pc = .ok (.imul, 1)) : okBin D pc (pc + 1) 2 := fun _ _ _ _ _ hr _ _ _ _ _ _ _ _ _ _ _ _ _ _ _ ⟨hx, hb, _⟩ k => by cases hr; exact lv_imul hx hb d k
theorem okb_idiv (d : decode D.2.1 pc = .ok (.idiv, 1)) : okBin D pc (pc + 1) 3 := fun _ _ _ _ _ ⟨h0, hr⟩ _ _ _ _ _ _ _ _ _ _ _ _ _ _ _ ⟨hx, hb, _⟩ k => by cases hr; exact lv_idiv hx hb d h0 k
theorem okb_irem (d : decode D.2.1 pc = .ok (.irem, 1)) : okBin D pc (pc + 1) 4 := fun _ _ _ _ _ ⟨h0, hr⟩ _ _ _ _ _ _ _ _ _ _ _ _ _ _ _ ⟨hx, hb, _⟩ k => by cases hr; exact lv_irem hx hb d h0 k
theorem okb_iand (d : decode D.2.1 pc = .ok (.iand, 1)) : okBin D pc (pc + 1) 5 := fun _ _ _ _ _ hr _ _ _ _ _ _ _ _ _ _ _ _ _ _ _ ⟨hx, hb, _⟩ k => by cases hr; exact lv_iand hx hb d k
theorem okb_ishr (d : decode D.2.1 pc = .ok (.ishr, 1)) : okBin D pc (pc + 1) 6 := fun _ _ _ _ _ hr _ _ _ _ _ _ _ _ _ _ _ _ _ _ _ ⟨hx, hb, _⟩ k => by cases hr; exact lv_ishr hx hb d k
theorem oku_i2c (d : decode D.2.1 pc = .ok (.i2c, 1)) : okUn D pc (pc + 1) 7 := fun _ _ _ _ hr _ _ _ _ _ _ _ _ _ _ _ _ _ _ _ ⟨hx, hb, _⟩ k => lv_i2c hx hb d hr.symm k
theorem oku_i2b (d : decode D.2.1 pc = .ok (.i2b, 1)) : okUn D pc (pc + 1) 8 := fun _ _ _ _ hr _ _ _ _ _ _ _ _ _ _ _ _ _ _ _ ⟨hx, hb, _⟩ k => lv_i2b hx hb d hr.symm k
theorem oku_ineg (d : decode D.2.1 pc = .ok (.ineg, 1)) : okUn D pc (pc + 1) 9 := fun _ _ _ _ hr _ _ _ _ _ _ _ _ _ _ _ _ _ _ _ ⟨hx, hb, _⟩ k => by cases hr; exact lv_ineg hx hb d k
theorem okj_eq {off : Int} (d : decode D.2.1 pc = .ok (.ifCond .eq off, 3)) (ht : (pc : Int) + off = (a : Int)) : okIf D pc (pc + 3) a 0 := fun _ _ _ _ _ _ _ _ _ _ _ _ _ _ _ _ _ _ ⟨hx, hb, _⟩ k k2 => lv_if_eq hx hb d ht k k2
theorem okj_ne {off : Int} (d : decode D.2.1 pc = .ok (.ifCond .ne off, 3)) (ht : (pc : Int) + off = (a : Int)) : okIf D pc (pc + 3) a 1 := fun _ _ _ _ _ _ _ _ _ _ _ _ _ _ _ _ _ _ ⟨hx, hb, _⟩ k k2 => lv_if_ne hx hb d ht k (fun q => k2 (fun r => r q))
theorem okj_lt {off : Int} (d : decode D.2.1 pc = .ok (.ifCond .lt off, 3)) (ht : (pc : Int) + off = (a : Int)) : okIf D pc (pc + 3) a 2 := fun _ _ _ _ _ _ _ _ _ _ _ _ _ _ _ _ _ _ ⟨hx, hb, _⟩ k k2 => lv_if_lt hx hb d ht k k2
theorem okj_ge {off : Int} (d : decode D.2.1 pc = .ok (.ifCond .ge off, 3)) (ht : (pc : Int) + off = (a : Int)) : okIf D pc (pc + 3) a 3 := fun _ _ _ _ _ _ _ _ _ _ _ _ _ _ _ _ _ _ ⟨hx, hb, _⟩ k k2 => lv_if_ge hx hb d ht k k2
theorem okj_gt {off : Int} (d : decode D.2.1 pc = .ok (.ifCond .gt off, 3)) (ht : (pc : Int) + off = (a : Int)) : okIf D pc (pc + 3) a 4 := fun _ _ _ _ _ _ _ _ _ _ _ _ _ _ _ _ _ _ ⟨hx, hb, _⟩ k k2 => lv_if_gt hx hb d ht k k2
theorem okj_le {off : Int} (d : decode D.2.1 pc = .ok (.ifCond .le off, 3)) (ht : (pc : Int) + off = (a : Int)) : okIf D pc (pc + 3) a 5 := fun _ _ _ _ _ _ _ _ _ _ _ _ _ _ _ _ _ _ ⟨hx, hb, _⟩ k k2 => lv_if_le hx hb d ht k k2
theorem okk_eq {off : Int} (d : decode D.2.1 pc = .ok (.if_icmp .eq off, 3)) (ht : (pc : Int) + off = (a : Int)) : okIcmp D pc (pc + 3) a 0 := fun _ _ _ _ _ _ _ _ _ _ _ _ _ _ _ _ _ _ _ ⟨hx, hb, _⟩ k k2 => lv_icmp_eq hx hb d ht k k2
theorem okk_ne {off : Int} (d : decode D.2.1 pc = .ok (.if_icmp .ne off, 3)) (ht : (pc : Int) + off = (a : Int)) : okIcmp D pc (pc + 3) a 1 := fun _ _ _ _ _ _ _ _ _ _ _ _ _ _ _ _ _ _ _ ⟨hx, hb, _⟩ k k2 => lv_icmp_ne hx hb d ht k (fun q => k2 (fun r => r q))
theorem okk_lt {off : Int} (d : decode D.2.1 pc = .ok (.if_icmp .lt off, 3)) (ht : (pc : Int) + off = (a : Int)) : okIcmp D pc (pc + 3) a 2 := fun _ _ _ _ _ _ _ _ _ _ _ _ _ _ _ _ _ _ _ ⟨hx, hb, _⟩ k k2 => lv_icmp_lt hx hb d ht k k2
theorem okk_ge {off : Int} (d : decode D.2.1 pc = .ok (.if_icmp .ge off, 3)) (ht : (pc : Int) + off = (a : Int)) : okIcmp D pc (pc + 3) a 3 := fun _ _ _ _ _ _ _ _ _ _ _ _ _ _ _ _ _ _ _ ⟨hx, hb, _⟩ k k2 => lv_icmp_ge hx hb d ht k k2
theorem okk_gt {off : Int} (d : decode D.2.1 pc = .ok (.if_icmp .gt off, 3)) (ht : (pc : Int) + off = (a : Int)) : okIcmp D pc (pc + 3) a 4 := fun _ _ _ _ _ _ _ _ _ _ _ _ _ _ _ _ _ _ _ ⟨hx, hb, _⟩ k k2 => lv_icmp_gt hx hb d ht k k2
theorem okk_le {off : Int} (d : decode D.2.1 pc = .ok (.if_icmp .le off, 3)) (ht : (pc : Int) + off = (a : Int)) : okIcmp D pc (pc + 3) a 5 := fun _ _ _ _ _ _ _ _ _ _ _ _ _ _ _ _ _ _ _ ⟨hx, hb, _⟩ k k2 => lv_icmp_le hx hb d ht k k2
theorem okm_ladd (d : decode D.2.1 pc = .ok (.ladd, 1)) : okLbin D pc (pc + 1) 0 := fun _ _ _ _ _ hr _ _ _ _ _ _ _ _ _ _ _ _ _ _ _ ⟨hx, hb, _⟩ k => by cases hr; exact lv_ladd hx hb d k
theorem okm_lsub (d : decode D.2.1 pc = .ok (.lsub, 1)) : okLbin D pc (pc + 1) 1 := fun _ _ _ _ _ hr _ _ _ _ _ _ _ _ _ _ _ _ _ _ _ ⟨hx, hb, _⟩ k => by cases hr; exact lv_lsub hx hb d k
theorem okm_lmul (d : decode D.2.1 pc = .ok (.lmul, 1)) : okLbin D pc (pc + 1) 2 := fun _ _ _ _ _ hr _ _ _ _ _ _ _ _ _ _ _ _ _ _ _ ⟨hx, hb, _⟩ k => by cases hr; exact lv_lmul hx hb d k
theorem okm_ldiv (d : decode D.2.1 pc = .ok (.ldiv, 1)) : okLbin D pc (pc + 1) 3 := fun _ _ _ _ _ ⟨h0, hr⟩ _ _ _ _ _ _ _ _ _ _ _ _ _ _ _ ⟨hx, hb, _⟩ k => by cases hr; exact lv_ldiv hx hb d h0 k
theorem okm_lcmp (d : decode D.2.1 pc = .ok (.lcmp, 1)) : okLbin D pc (pc + 1) 4 := fun _ _ _ _ _ hr _ _ _ _ _ _ _ _ _ _ _ _ _ _ _ ⟨hx, hb, _⟩ k => by cases hr; exact W.lcmp hx hb d k
theorem okm_i2l (d : decode D.2.1 pc = .ok (.i2l, 1)) : okI2l D pc (pc + 1) := fun _ _ _ _ _ _ _ _ _ _ _ _ _ _ _ _ _ _ ⟨hx, hb, _⟩ k => lv_i2l hx hb d rfl k
theorem okm_i2f (d : decode D.2.1 pc = .ok (.i2f, 1)) : okRw D pc (pc + 1) [.int (nI 0)] [.float (UInt32.ofNat 0)] := fun _ _ _ _ _ _ _ _ _ _ _ _ _ _ _ _ _ ⟨hx, hb, _⟩ k => lv_i2f hx hb d ((show FP.i2f (nI 0) = UInt32.ofNat 0 by decide +kernel) ▸ k)
theorem okm_fdiv (d : decode D.2.1 pc = .ok (.fdiv, 1)) : okRw D pc (pc + 1) [.float (UInt32.ofNat 1114636288), .float (UInt32.ofNat 0)] [.float (UInt32.ofNat 0)] := fun _ _ _ _ _ _ _ _ _ _ _ _ _ _ _ _ _ ⟨hx, hb, _⟩ k => lv_fdiv hx hb d (by unfold vf_n32; decide +kernel) ((show FP.fdiv (UInt32.ofNat 0) (UInt32.ofNat 1114636288) = UInt32.ofNat 0 by decide +kernel) ▸ k)
theorem okm_f2d (d : decode D.2.1 pc = .ok (.f2d, 1)) : okRw D pc (pc + 1) [.float (UInt32.ofNat 0)] [.double (UInt64.ofNat 0)] := fun _ _ _ _ _ _ _ _ _ _ _ _ _ _ _ _ _ ⟨hx, hb, _⟩ k => lv_f2d hx hb d (by unfold vf_n64; decide +kernel) ((show FP.f2d (UInt32.ofNat 0) = UInt64.ofNat 0 by decide +kernel) ▸ k)
theorem okm_dcmpl (d : decode D.2.1 pc = .ok (.dcmp .l, 1)) : okRw D pc (pc + 1) [.double (UInt64.ofNat 0), .double (UInt64.ofNat 0)] [.int (nI 0)] := fun _ _ _ _ _ _ _ _ _ _ _ _ _ _ _ _ _ ⟨hx, hb, _⟩ k => lv_dcmp hx hb d ((show Op.cmpValue (FP.dcmp (UInt64.ofNat 0) (UInt64.ofNat 0)) .l = nI 0 by decide +kernel) ▸ k)
end OKS
