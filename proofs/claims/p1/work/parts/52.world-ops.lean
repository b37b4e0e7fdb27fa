/-! what an instruction does, said of every frame of its method: those that look at the world -/
def e_ty : Nat → FieldType
  | 0 => .int
  | 1 => .boolean
  | 2 => .char
  | 3 => .long
  | 4 => .double
  | 5 => .byte
  | 6 => .array .int
  | _ => .object "java/lang/Object"
def TYs (cA : Nat → ClassId) : List (ClassId × FieldType) := [(cA 0, e_ty 0), (cA 1, e_ty 1), (cA 2, e_ty 2), (cA 3, e_ty 3), (cA 4, e_ty 4), (cA 5, e_ty 5), (cA 6, e_ty 6), (cA 7, e_ty 7)]
theorem TYs_at {cA : Nat → ClassId} {t : Nat} (h : t < 8) : (TYs cA)[t]? = some (cA t, e_ty t) := by
  match t, h with
  | 0, _ => rfl
  | 1, _ => rfl
  | 2, _ => rfl
  | 3, _ => rfl
  | 4, _ => rfl
  | 5, _ => rfl
  | 6, _ => rfl
  | 7, _ => rfl
  | t + 8, h => omega
/-- a value that a place of this type may hold -/
def fitV (t : Nat) (V : Value) : Prop := match t with
  | 0 => ∃ x, V = .int x
  | 1 => V = .int (nI 0) ∨ V = .int (nI 1)
  | 2 => ∃ x : Int32, V = .int x ∧ fits .char (.int x) = true ∧ narrow .char (.int x) = .int x
  | 3 => ∃ x, V = .long x
  | 4 => ∃ x, V = .double x
  | 7 => V = .null ∨ ∃ a, V = .ref a
  | _ => False
theorem fitV_int {V : Value} (h : fitV 0 V) : narrow .int V = V ∧ fits .int V = true := by obtain ⟨x, rfl⟩ := h; exact ⟨rfl, rfl⟩
theorem fitV_bool {V : Value} (h : fitV 1 V) : narrow .boolean V = V ∧ fits .boolean V = true := by
  rcases h with rfl | rfl <;> exact ⟨by decide +kernel, by decide +kernel⟩
theorem fitV_char {V : Value} (h : fitV 2 V) : narrow .char V = V ∧ fits .char V = true := by obtain ⟨x, rfl, h1, h2⟩ := h; exact ⟨h2, h1⟩
theorem fitV_long {V : Value} (h : fitV 3 V) : narrow .long V = V ∧ fits .long V = true := by obtain ⟨x, rfl⟩ := h; exact ⟨rfl, rfl⟩
theorem fitV_double {V : Value} (h : fitV 4 V) : narrow .double V = V ∧ fits .double V = true := by obtain ⟨x, rfl⟩ := h; exact ⟨rfl, rfl⟩
theorem fitV_obj {C : String} {V : Value} (h : fitV 7 V) : narrow (.object C) V = V ∧ fits (.object C) V = true := by rcases h with rfl | ⟨a, rfl⟩ <;> exact ⟨rfl, rfl⟩
theorem fitV_arr {e : FieldType} {V : Value} (h : fitV 7 V) : narrow (.array e) V = V ∧ fits (.array e) V = true := by rcases h with rfl | ⟨a, rfl⟩ <;> exact ⟨rfl, rfl⟩
section OKW
variable (D : eD) (pc nx : Nat)
def okGetf (ci k : Nat) : Prop := ∀ (p : Program) (l : Launch) (e : Env) (R : Room) (s : State) (m : MethodId) (args : Array Value) (below : List Frame) (meth : Method) (c : Code) (H : Heap) (locs : List Loc) (cells slots : Nat) (Q : State → Prop) (cA : Nat → ClassId) (Dg : va_G) (ws : va_W) (a q0 : Nat) (fs : List Value) (v : Value) (ls : Array Slot) (st : List Value),
  eCx p s m args meth c D → va_K Dg vwCl (TYs cA) s → va_P Dg vwCl ws H → ws[q0]? = some (a, .inr (ci, fs)) → fs[k]? = some v → W p l e R s m args below meth c H locs cells slots Q (F0 m nx ls (v :: st)) → W p l e R s m args below meth c H locs cells slots Q (F0 m pc ls (.ref a :: st))
def okPutf (ci k t : Nat) : Prop := ∀ (p : Program) (l : Launch) (e : Env) (R : Room) (s : State) (m : MethodId) (args : Array Value) (below : List Frame) (meth : Method) (c : Code) (H : Heap) (locs : List Loc) (cells slots : Nat) (Q : State → Prop) (cA : Nat → ClassId) (Dg : va_G) (A : Nat → Prop) (H0 : Heap) (ws : va_W) (a q0 : Nat) (fs : List Value) (v : Value) (ls : Array Slot) (st : List Value),
  eCx p s m args meth c D → va_K Dg vwCl (TYs cA) s → va_P Dg vwCl ws H → va_D A ws → va_S A H0 H locs → ws[q0]? = some (a, .inr (ci, fs)) → k < fs.length → fitV t v → (∀ (H1 : Heap) (locs1 : List Loc), va_P Dg vwCl (ws.set q0 (a, .inr (ci, fs.set k v))) H1 → va_D A (ws.set q0 (a, .inr (ci, fs.set k v))) → va_S A H0 H1 locs1 → W p l e R s m args below meth c H1 locs1 cells slots Q (F0 m nx ls st)) → W p l e R s m args below meth c H locs cells slots Q (F0 m pc ls (v :: .ref a :: st))
def okNew (ci N : Nat) (L : List Value) : Prop := ∀ (p : Program) (l : Launch) (e : Env) (R : Room) (s : State) (m : MethodId) (args : Array Value) (below : List Frame) (meth : Method) (c : Code) (H : Heap) (locs : List Loc) (cells slots : Nat) (Q : State → Prop) (cA : Nat → ClassId) (Dg : va_G) (A : Nat → Prop) (H0 : Heap) (ws : va_W) (ls : Array Slot) (st : List Value),
  eCx p s m args meth c D → va_K Dg vwCl (TYs cA) s → va_P Dg vwCl ws H → va_D A ws → va_S A H0 H locs → (∀ q, H0.size ≤ q → A q) → cells + 1 ≤ R.cells → slots + N ≤ R.slots → (∀ (q : Nat) (H1 : Heap), va_P Dg vwCl (ws ++ [(q, .inr (ci, L))]) H1 → va_D A (ws ++ [(q, .inr (ci, L))]) → va_S A H0 H1 locs → W p l e R s m args below meth c H1 locs (cells + 1) (slots + N) Q (F0 m nx ls (.ref q :: st))) → W p l e R s m args below meth c H locs cells slots Q (F0 m pc ls st)
def okCast (ci : Nat) : Prop := ∀ (p : Program) (l : Launch) (e : Env) (R : Room) (s : State) (m : MethodId) (args : Array Value) (below : List Frame) (meth : Method) (c : Code) (H : Heap) (locs : List Loc) (cells slots : Nat) (Q : State → Prop) (cA : Nat → ClassId) (Dg : va_G) (a : Nat) (r : vw_C) (ls : Array Slot) (st : List Value),
  eCx p s m args meth c D → va_K Dg vwCl (TYs cA) s → vwCl[ci]? = some r → (∃ cell : Cell, H[a]? = some cell ∧ cell.vm.isStatics = false ∧ s.vm.findClass r.1 = some cell.cls) → W p l e R s m args below meth c H locs cells slots Q (F0 m nx ls (.ref a :: st)) → W p l e R s m args below meth c H locs cells slots Q (F0 m pc ls (.ref a :: st))
def okObjInit : Prop := ∀ (p : Program) (l : Launch) (e : Env) (R : Room) (s : State) (m : MethodId) (args : Array Value) (below : List Frame) (meth : Method) (c : Code) (H : Heap) (locs : List Loc) (cells slots : Nat) (Q : State → Prop) (a : Nat) (ls : Array Slot) (st : List Value),
  eCx p s m args meth c D → ls.size = c.maxLocals → 1 ≤ R.frames → 12 + (st.map fun v => v.category).sum ≤ R.locals → W p l e R s m args below meth c H locs cells slots Q (F0 m nx ls st) → W p l e R s m args below meth c H locs cells slots Q (F0 m pc ls (.ref a :: st))
/-- arrays: by the decode rows alone -/
def okDec (ins : Instr) (n : Nat) : Prop := decode D.2.1 pc = .ok (ins, n) ∧ pc + n = nx
def okAcmp (tgt : Nat) (eq : Bool) : Prop := ∀ (ls : Array Slot) (st : List Value) (rx ry : Option Nat), eStpC D (rx = ry) (fun m => F0 m pc ls (va_rf ry :: va_rf rx :: st)) (fun m => F0 m (bif eq then tgt else nx) ls st) (fun m => F0 m (bif eq then nx else tgt) ls st)
/-- a given thing's push, or a static int's -/
def okPushX (x : Nat) : Prop := ∀ (p : Program) (l : Launch) (e : Env) (R : Room) (s : State) (m : MethodId) (args : Array Value) (below : List Frame) (meth : Method) (c : Code) (H : Heap) (locs : List Loc) (cells slots : Nat) (Q : State → Prop) (X : eX) (A : Nat → Prop) (ls : Array Slot) (st : List Value),
  eCx p s m args meth c D → eE X A s → va_S A s.heap H locs → W p l e R s m args below meth c H locs cells slots Q (F0 m nx ls (.ref (X.1 x) :: st)) → W p l e R s m args below meth c H locs cells slots Q (F0 m pc ls st)
def okPushI (n : Nat) : Prop := ∀ (p : Program) (l : Launch) (e : Env) (R : Room) (s : State) (m : MethodId) (args : Array Value) (below : List Frame) (meth : Method) (c : Code) (H : Heap) (locs : List Loc) (cells slots : Nat) (Q : State → Prop) (X : eX) (A : Nat → Prop) (ls : Array Slot) (st : List Value),
  eCx p s m args meth c D → eE X A s → va_S A s.heap H locs → W p l e R s m args below meth c H locs cells slots Q (F0 m nx ls (.int (nI n) :: st)) → W p l e R s m args below meth c H locs cells slots Q (F0 m pc ls st)
/-- a given object's field -/
def okGetx (ci k : Nat) : Prop := ∀ (p : Program) (l : Launch) (e : Env) (R : Room) (s : State) (m : MethodId) (args : Array Value) (below : List Frame) (meth : Method) (c : Code) (H : Heap) (locs : List Loc) (cells slots : Nat) (Q : State → Prop) (X : eX) (A : Nat → Prop) (ρ : Nat → Nat) (x : Nat) (fs : List eV) (u : eV) (ls : Array Slot) (st : List Value),
  eCx p s m args meth c D → eE X A s → va_S A s.heap H locs → pg_xf x = some (ci, fs) → e_get fs k = some u → W p l e R s m args below meth c H locs cells slots Q (F0 m nx ls (c_v X ρ u :: st)) → W p l e R s m args below meth c H locs cells slots Q (F0 m pc ls (.ref (X.1 x) :: st))
end OKW
section OKWL
variable {D : eD} {pc nx ci k t : Nat}
theorem okw_get {idx : Nat} {ref C : String} {T : u_T} {N : Nat} (d : decode D.2.1 pc = .ok (.getfield idx, 3)) (hc : vwCl[ci]? = some (C, T, N)) (hin : ∀ w ∈ u_ws C T N, w ∈ wG) (hk : k < N) (hl : Cond.fieldLink D.1.cls idx ref (T k).2.1 (T k).2.2.1 ∈ wG) (hs : (T k).1 = ref) : okGetf D pc (pc + 3) ci k :=
  fun _ _ _ _ _ _ _ _ _ _ _ _ _ _ _ _ _ _ _ _ _ _ _ _ ⟨hx, hb, _, _, ht, ho, _⟩ hK hP he hv kk => va_get hx hb ht hin ho hK hP _ he hc k hk (ht _ hl) (fun _ h => hs ▸ h) hv d kk
theorem okw_getM {idx : Nat} {ref C : String} {T : u_T} {N : Nat} (d : decode D.2.1 pc = .ok (.getfield idx, 3)) (hc : vwCl[ci]? = some (C, T, N)) (hin : ∀ w ∈ u_ws C T N, w ∈ wG) (hk : k < N) (hl : Cond.fieldLink D.1.cls idx ref (T k).2.1 (T k).2.2.1 ∈ wG) (hs : Cond.sameField ref (T k).1 (T k).2.1 (T k).2.2.1 ∈ wG) : okGetf D pc (pc + 3) ci k :=
  fun _ _ _ _ _ _ _ _ _ _ _ _ _ _ _ _ _ _ _ _ _ _ _ _ ⟨hx, hb, _, _, ht, ho, _⟩ hK hP he hv kk => va_get hx hb ht hin ho hK hP _ he hc k hk (ht _ hl) (fun x h => u_same (ht _ hs) x h) hv d kk
theorem okw_getN {idx : Nat} {ref C host : String} {T : u_T} {N : Nat} (d : decode D.2.1 pc = .ok (.getfield idx, 3)) (hc : vwCl[ci]? = some (C, T, N)) (hin : ∀ w ∈ u_ws C T N, w ∈ wG) (hk : k < N) (hl : Cond.fieldLinkNest D.1.cls idx ref (T k).2.1 (T k).2.2.1 host ∈ wN) (hs : (T k).1 = ref) : okGetf D pc (pc + 3) ci k :=
  fun _ _ _ _ _ _ _ _ _ _ _ _ _ _ _ _ _ _ _ _ _ _ _ _ ⟨hx, hb, _, _, ht, ho, _, _, hN, _⟩ hK hP he hv kk => va_getN hx hb ht hin ho hK hP _ he hc k hk (va_Nw.use rfl (hN _ hl)) (fun _ h => hs ▸ h) hv d kk
theorem okw_put {idx : Nat} {ref C : String} {T : u_T} {N : Nat} {ty : FieldType} {ty0 : Nat → FieldType} (d : decode D.2.1 pc = .ok (.putfield idx, 3)) (hc : vwCl[ci]? = some (C, T, N)) (hin : ∀ w ∈ u_ws C T N, w ∈ wG) (hty : ∀ k, k < N → parseFieldDescriptor (T k).2.2.1 = some (ty0 k)) (hnm : ∀ a, a < N → ∀ b, b < N → a ≠ b → (T a).2.1 ≠ (T b).2.1) (hk : k < N) (hl : Cond.fieldLink D.1.cls idx ref (T k).2.1 (T k).2.2.1 ∈ wG) (hs : (T k).1 = ref) (hf : (T k).2.2.2 = false) (hd : parseFieldDescriptor (T k).2.2.1 = some ty) (hv : ∀ V, fitV t V → narrow ty V = V ∧ fits ty V = true) : okPutf D pc (pc + 3) ci k t :=
  fun _ _ _ _ _ _ _ _ _ _ _ _ _ _ _ _ _ _ _ _ _ _ _ _ _ _ ⟨hx, hb, _, _, ht, ho, _⟩ hK hP hD hS he hlen hV kk => va_put hx hb ht hin ty0 hty hnm ho hK hP hD hS _ he hc k hk (ht _ hl) (fun _ h => hs ▸ h) hf hd (hv _ hV).1 (hv _ hV).2 hlen d kk
theorem okw_putM {idx : Nat} {ref C : String} {T : u_T} {N : Nat} {ty : FieldType} {ty0 : Nat → FieldType} (d : decode D.2.1 pc = .ok (.putfield idx, 3)) (hc : vwCl[ci]? = some (C, T, N)) (hin : ∀ w ∈ u_ws C T N, w ∈ wG) (hty : ∀ k, k < N → parseFieldDescriptor (T k).2.2.1 = some (ty0 k)) (hnm : ∀ a, a < N → ∀ b, b < N → a ≠ b → (T a).2.1 ≠ (T b).2.1) (hk : k < N) (hl : Cond.fieldLink D.1.cls idx ref (T k).2.1 (T k).2.2.1 ∈ wG) (hs : Cond.sameField ref (T k).1 (T k).2.1 (T k).2.2.1 ∈ wG) (hf : (T k).2.2.2 = false) (hd : parseFieldDescriptor (T k).2.2.1 = some ty) (hv : ∀ V, fitV t V → narrow ty V = V ∧ fits ty V = true) : okPutf D pc (pc + 3) ci k t :=
  fun _ _ _ _ _ _ _ _ _ _ _ _ _ _ _ _ _ _ _ _ _ _ _ _ _ _ ⟨hx, hb, _, _, ht, ho, _⟩ hK hP hD hS he hlen hV kk => va_put hx hb ht hin ty0 hty hnm ho hK hP hD hS _ he hc k hk (ht _ hl) (fun x h => u_same (ht _ hs) x h) hf hd (hv _ hV).1 (hv _ hV).2 hlen d kk
theorem okw_putN {idx : Nat} {ref C host : String} {T : u_T} {N : Nat} {ty : FieldType} {ty0 : Nat → FieldType} (d : decode D.2.1 pc = .ok (.putfield idx, 3)) (hc : vwCl[ci]? = some (C, T, N)) (hin : ∀ w ∈ u_ws C T N, w ∈ wG) (hty : ∀ k, k < N → parseFieldDescriptor (T k).2.2.1 = some (ty0 k)) (hnm : ∀ a, a < N → ∀ b, b < N → a ≠ b → (T a).2.1 ≠ (T b).2.1) (hk : k < N) (hl : Cond.fieldLinkNest D.1.cls idx ref (T k).2.1 (T k).2.2.1 host ∈ wN) (hs : (T k).1 = ref) (hf : (T k).2.2.2 = false) (hd : parseFieldDescriptor (T k).2.2.1 = some ty) (hv : ∀ V, fitV t V → narrow ty V = V ∧ fits ty V = true) : okPutf D pc (pc + 3) ci k t :=
  fun _ _ _ _ _ _ _ _ _ _ _ _ _ _ _ _ _ _ _ _ _ _ _ _ _ _ ⟨hx, hb, _, _, ht, ho, _, _, hN, _⟩ hK hP hD hS he hlen hV kk => va_putN hx hb ht hin ty0 hty hnm ho hK hP hD hS _ he hc k hk (va_Nw.use rfl (hN _ hl)) (fun _ h => hs ▸ h) hf hd (hv _ hV).1 (hv _ hV).2 hlen d kk
theorem okw_putF {idx : Nat} {ref C : String} {T : u_T} {N : Nat} {ty : FieldType} {ty0 : Nat → FieldType} (d : decode D.2.1 pc = .ok (.putfield idx, 3)) (hc : vwCl[ci]? = some (C, T, N)) (hin : ∀ w ∈ u_ws C T N, w ∈ wG) (hty : ∀ k, k < N → parseFieldDescriptor (T k).2.2.1 = some (ty0 k)) (hnm : ∀ a, a < N → ∀ b, b < N → a ≠ b → (T a).2.1 ≠ (T b).2.1) (hk : k < N) (hl : Cond.fieldLink D.1.cls idx ref (T k).2.1 (T k).2.2.1 ∈ wG) (hs : (T k).1 = ref) (hf : (T k).2.2.2 = true) (hi : D.1.name = "<init>") (hdc : (T k).1 = D.1.cls) (hd : parseFieldDescriptor (T k).2.2.1 = some ty) (hv : ∀ V, fitV t V → narrow ty V = V ∧ fits ty V = true) : okPutf D pc (pc + 3) ci k t :=
  fun _ _ _ _ _ _ _ _ _ _ _ _ _ _ _ _ _ _ _ _ _ _ _ _ _ _ ⟨hx, hb, _, _, ht, ho, _, hnn, _⟩ hK hP hD hS he hlen hV kk => va_putF hx hb ht hin ty0 hty hnm ho hK hP hD hS _ he hc k hk (ht _ hl) (fun _ h => hs ▸ h) hf (hnn.trans hi) hdc hd (hv _ hV).1 (hv _ hV).2 hlen d kk
theorem okw_new {idx : Nat} {C : String} {T : u_T} {N : Nat} {ty : Nat → FieldType} {L : List Value} (d : decode D.2.1 pc = .ok (.new idx, 3)) (hc : vwCl[ci]? = some (C, T, N)) (hin : ∀ w ∈ u_ws C T N, w ∈ wG) (hty : ∀ k, k < N → parseFieldDescriptor (T k).2.2.1 = some (ty k)) (hl : Cond.classLink D.1.cls idx C ∈ wG) (hi : Cond.instantiable C N ∈ wG) (hn : Cond.initialized C ∈ wG) (hL : (List.range N).all (fun j => decide (defaultValue (ty j) = vp_V L j)) = true) : okNew D pc (pc + 3) ci N L :=
  fun _ _ _ _ _ _ _ _ _ _ _ _ _ _ _ _ _ _ _ _ _ _ ⟨hx, hb, _, _, ht, ho, _⟩ hK hP hD hS hA hcl hsl kk => va_new hx hb ht hin ty hty ho (ht _ hl) (ht _ hi) (ht _ hn) hK hP hD hS hA hc (fun j hj => co_dec (P := fun j => defaultValue (ty j) = vp_V L j) hL hj) hcl hsl d kk
theorem okw_cast {idx : Nat} {C : String} {T : u_T} {N : Nat} (d : decode D.2.1 pc = .ok (.checkcast idx, 3)) (hc : vwCl[ci]? = some (C, T, N)) (hl : Cond.classLink D.1.cls idx C ∈ wG) : okCast D pc (pc + 3) ci :=
  fun _ _ _ _ _ _ _ _ _ _ _ _ _ _ _ _ _ _ _ _ _ ⟨hx, hb, _, _, ht, ho, _⟩ hK hr hcell kk => by
    rw [hc] at hr
    cases hr
    exact va_castS hx hb ho (ht _ hl) (hK.1 ci _ hc).2 hcell d kk
theorem okw_obj {idx : Nat} (d : decode D.2.1 pc = .ok (.invokespecial idx, 3)) (hl : Cond.methodLink D.1.cls idx Lib.objectInit ∈ wG) (hi : Cond.instanceMethod Lib.objectInit ∈ wG) (hc : Cond.code Lib.objectInit ⟨#[0xb1]⟩ 1 none ∈ wG) : okObjInit D pc (pc + 3) :=
  fun _ _ _ _ _ _ _ _ _ _ _ _ _ _ _ _ _ _ ⟨hx, hb, _, _, ht, ho, _⟩ hsz hf hw kk => W.objInit hx hb ho (ht _ hl) (ht _ hi) (ht _ hc) rfl hsz rfl d hf (by show 2 * 0 + _ + 12 ≤ _; omega) (W.eq rfl kk)
theorem okw_acmp_eq {off : Int} {a : Nat} (d : decode D.2.1 pc = .ok (.if_acmp .eq off, 3)) (ht : (pc : Int) + off = (a : Int)) : okAcmp D pc (pc + 3) a true :=
  fun _ _ _ _ _ _ _ _ _ _ _ _ _ _ _ _ _ _ _ ⟨hx, hb, _⟩ k k2 => lv_acmp_eq hx hb d ht k k2
theorem okw_acmp_ne {off : Int} {a : Nat} (d : decode D.2.1 pc = .ok (.if_acmp .ne off, 3)) (ht : (pc : Int) + off = (a : Int)) : okAcmp D pc (pc + 3) a false :=
  fun _ _ _ _ _ _ _ _ _ _ _ _ _ _ _ _ _ _ _ ⟨hx, hb, _⟩ k k2 => lv_acmp_ne hx hb d ht k2 k
theorem okw_getstatic {idx x : Nat} {C n ds : String} (d : decode D.2.1 pc = .ok (.getstatic idx, 3)) (hm : (C, n, ds, x) ∈ wZr) (hl : Cond.fieldLink D.1.cls idx C n ds ∈ wG) : okPushX D pc (pc + 3) x :=
  fun _ _ _ _ _ _ _ _ _ _ _ _ _ _ _ _ _ _ _ ⟨hx, hb, _, _, ht, ho, _⟩ hE hS kk => va_gets hx hb (hE.2.2.2.2.2.2.2.2.1 _ hm) hS ho (ht _ hl) (fun _ h => h) d kk
theorem okw_getstaticI {idx x : Nat} {C n ds : String} (d : decode D.2.1 pc = .ok (.getstatic idx, 3)) (hm : (C, n, ds, x) ∈ wZi) (hl : Cond.fieldLink D.1.cls idx C n ds ∈ wG) : okPushI D pc (pc + 3) x :=
  fun _ _ _ _ _ _ _ _ _ _ _ _ _ _ _ _ _ _ _ ⟨hx, hb, _, _, ht, ho, _⟩ hE hS kk => va_gets hx hb (hE.2.2.2.2.2.2.2.2.2.1 _ hm) hS ho (ht _ hl) (fun _ h => h) d kk
theorem okw_ldcS (hD : D.1.cls = "PitForgeModel") (d : decode D.2.1 pc = .ok (.ldc 159, 2)) : okPushX D pc (pc + 2) 5 :=
  fun _ _ _ _ _ _ _ _ _ _ _ _ _ _ _ _ _ _ _ ⟨hx, hb, _, _, _, ho, _⟩ hE hS kk => va_ldcS hx hb (by rw [← hD]; exact ho) hE.2.2.2.2.2.2.2.2.2.2.2.2.2.2.1 d kk
end OKWL
