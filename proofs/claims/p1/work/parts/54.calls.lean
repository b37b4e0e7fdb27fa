/-! calls, ends, throws; what is given at the start, looked at -/
/-- a method's words: its own code, and the words of all -/
def eWs (D : eD) : List Cond := (match D.2.2.2.2 with
  | [] => Cond.code D.1 D.2.1 D.2.2.1 D.2.2.2.1
  | _ :: _ => Cond.codeWith D.1 D.2.1 D.2.2.1 D.2.2.2.1 D.2.2.2.2) :: wG
def eMet (l : Launch) (D : eD) (rm : Room) (Pc : Array Value → State → Prop) (Qc : Array Value → State → Outcome → State → Prop) (XC : String → State → State → Prop) (mc ms : Nat) (free : Addr → Prop) : Prop := vx_Met l D.1 (eWs D) rm Pc Qc XC mc ms free
theorem wG_good {w : Cond} (h : w ∈ wG) : (w.onTables && w.keeps) = true ∨ ∃ ty, w = .arrayClass ty := good_of_word (List.mem_filter.mp h).2
theorem gI {ws : List Cond} (h : ∀ w ∈ ws, w ∈ wG) : GoodIn wG ws := fun w hw => ⟨h w hw, wG_good (h w hw)⟩
/-- nothing is thrown: a contract of the kit -/
theorem eMet.met {l : Launch} {D : eD} {rm : Room} {Pc : Array Value → State → Prop} {Qc : Array Value → State → Outcome → State → Prop} {XC : String → State → State → Prop} {mc ms : Nat} {free : Addr → Prop} (h : eMet l D rm Pc Qc XC mc ms free) (hX : ∀ E st t, ¬ XC E st t) : Met l D.1 (eWs D) rm Pc Qc mc ms free := by
  intro p e hl hc hk s m args below hf hs hP hK
  obtain ⟨n, o, h1, h2, h3, h4⟩ := h p e hl hc hk s m args below hf hs hP hK
  refine ⟨n, o, h1, h2, h3, ?_⟩
  rcases h4 with h4 | ⟨q, -, E, ce, L, hx, -⟩
  · exact h4
  · exact absurd hx (hX _ _ _)
def eRun (p : Program) (l : Launch) (e : Env) (R : Room) (s : State) (m : MethodId) (args : Array Value) (below : List Frame) (meth : Method) (c : Code) (H : Heap) (locs : List Loc) (cells slots mc ms pc nx : Nat) (ls : Array Slot) (st0 rest : List Value) (Qa : State → Outcome → State → Prop) (XC : String → State → State → Prop) (free : Addr → Prop) : Prop :=
  ∀ T : State, T.heap = H → Stand p l e R s m args below meth c T locs cells slots →
    (∃ (v : Option Value) (st₀ t T' : State) (L : List Loc), st₀.heap = H ∧ Stand p l e R s m args below meth c T' (locs ++ L) (cells + mc) (slots + ms) ∧ (∀ q ∈ L, free q.base) ∧ T'.heap = t.heap ∧ T'.vm = t.vm ∧ Qa st₀ (.returned v) t ∧
      ∀ target, Steps p.tables e below (T'.setTop (F0 m nx ls (v.toList ++ rest))) target → Steps p.tables e below (T.setTop (F0 m pc ls st0)) target) ∨
    (∃ (q : Addr) (st₀ t T' : State) (L : List Loc) (E : String) (ce : Cell), st₀.heap = H ∧ Stand p l e R s m args below meth c T' (locs ++ L) (cells + mc) (slots + ms) ∧ (∀ z ∈ L, free z.base) ∧ T'.heap = t.heap ∧ T'.vm = t.vm ∧ XC E st₀ t ∧ t.heap[q]? = some ce ∧ ce.vm = .none ∧ s.vm.findClass E = some ce.cls ∧
      Steps p.tables e below (T.setTop (F0 m pc ls st0)) ((T'.setTop (F0 m pc ls rest)).pushFrame (.throwing q)))
section ERUN
variable {p : Program} {l : Launch} {e : Env} {R : Room} {s : State} {m : MethodId} {args : Array Value} {below : List Frame} {meth : Method} {c : Code} {H : Heap} {locs : List Loc} {cells slots mc ms pc : Nat} {ls : Array Slot} {st0 rest : List Value} {Qa : State → Outcome → State → Prop} {XC : String → State → State → Prop} {free : Addr → Prop}
theorem eRun.of3 (h : va_Run p l e R s m args below meth c H locs cells slots mc ms (F0 m pc ls st0) rest Qa free) : eRun p l e R s m args below meth c H locs cells slots mc ms pc (pc + 3) ls st0 rest Qa XC free := fun T hT X => Or.inl (h T hT X)
theorem eRun.of5 (h : va_Run5 p l e R s m args below meth c H locs cells slots mc ms (F0 m pc ls st0) rest Qa free) : eRun p l e R s m args below meth c H locs cells slots mc ms pc (pc + 5) ls st0 rest Qa XC free := fun T hT X => Or.inl (h T hT X)
theorem eRun.ofX (h : vx_Run p l e R s m args below meth c H locs cells slots mc ms (F0 m pc ls st0) rest Qa XC free) : eRun p l e R s m args below meth c H locs cells slots mc ms pc (pc + 3) ls st0 rest Qa XC free := h
end ERUN
def eRecv (kind : Nat) (Da : eD) (s : State) (H : Heap) (As : List Value) : Prop := match kind with
  | 0 => True
  | 4 => True
  | 1 => ∃ a As', As = .ref a :: As'
  | _ => ∃ a As', As = .ref a :: As' ∧ ∃ cell : Cell, H[a]? = some cell ∧ cell.vm.isStatics = false ∧ s.vm.findClass Da.1.cls = some cell.cls
def okCallX (D : eD) (pc nx : Nat) (Da : eD) (b kind : Nat) : Prop := ∀ (p : Program) (l : Launch) (e : Env) (R : Room) (s : State) (m : MethodId) (args : Array Value) (below : List Frame) (meth : Method) (c : Code) (H : Heap) (locs : List Loc) (cells slots : Nat) (rm : Room) (Pc : Array Value → State → Prop) (Qc : Array Value → State → Outcome → State → Prop) (XC : String → State → State → Prop) (mc ms : Nat) (free : Addr → Prop) (As rest : List Value) (ls : Array Slot),
  eCx p s m args meth c D → ls.size = D.2.2.1 → eMet l Da rm Pc Qc XC mc ms free → rm.cells = mc → rm.slots = ms → rm.frames + 1 ≤ R.frames → 19 + Da.2.2.1 + rm.locals ≤ R.locals → cells + mc ≤ R.cells → slots + ms ≤ R.slots → FrameBlind Pc → As.length = b → (∀ U : State, U.heap = H → s.WarmedH U.vm → Pc As.toArray U) → eRecv kind Da s H As → (rest.map fun v => v.category).sum ≤ 8 →
  eRun p l e R s m args below meth c H locs cells slots mc ms pc nx ls (As.reverse ++ rest) rest (Qc As.toArray) XC free
def okCallM (D : eD) (pc nx : Nat) (Da : eD) (b kind : Nat) : Prop := ∀ (p : Program) (l : Launch) (e : Env) (R : Room) (s : State) (m : MethodId) (args : Array Value) (below : List Frame) (meth : Method) (c : Code) (H : Heap) (locs : List Loc) (cells slots : Nat) (rm : Room) (Pc : Array Value → State → Prop) (Qc : Array Value → State → Outcome → State → Prop) (XC : String → State → State → Prop) (mc ms : Nat) (free : Addr → Prop) (As rest : List Value) (ls : Array Slot) (cA : Nat → ClassId) (Dg : va_G),
  eCx p s m args meth c D → va_K Dg vwCl (TYs cA) s → ls.size = D.2.2.1 → eMet l Da rm Pc Qc XC mc ms free → (∀ E st t, ¬ XC E st t) → rm.cells = mc → rm.slots = ms → rm.frames + 1 ≤ R.frames → 19 + Da.2.2.1 + rm.locals ≤ R.locals → cells + mc ≤ R.cells → slots + ms ≤ R.slots → FrameBlind Pc → As.length = b → (∀ U : State, U.heap = H → s.WarmedH U.vm → Pc As.toArray U) → eRecv kind Da s H As → (rest.map fun v => v.category).sum ≤ 8 →
  eRun p l e R s m args below meth c H locs cells slots mc ms pc nx ls (As.reverse ++ rest) rest (Qc As.toArray) XC free
theorem okCallX.M {D Da : eD} {pc nx b kind : Nat} (h : okCallX D pc nx Da b kind) : okCallM D pc nx Da b kind :=
  fun p l e R s m args below meth c H locs cells slots rm Pc Qc XC mc ms free As rest ls _ _ hC _ h1 h2 _ h3 h4 h5 h6 h7 h8 h9 h10 h11 h12 h13 => h p l e R s m args below meth c H locs cells slots rm Pc Qc XC mc ms free As rest ls hC h1 h2 h3 h4 h5 h6 h7 h8 h9 h10 h11 h12 h13
abbrev eNm (y : MethodName) (n : Nat) : Prop := y.cls ≠ "java/lang/invoke/MethodHandle" ∧ y.cls ≠ "java/lang/invoke/VarHandle" ∧ (parseMethodDescriptor y.desc).map (fun d => d.parameters.length) = some n
section OKC
variable {D Da : eD} {pc n idx : Nat} {code : Cond}
theorem eWs_nil (hh : Da.2.2.2.2 = []) : eWs Da = Cond.code Da.1 Da.2.1 Da.2.2.1 Da.2.2.2.1 :: wG := by unfold eWs; rw [hh]
theorem eWs_in (hh : Da.2.2.2.2 = []) (hw : Cond.code Da.1 Da.2.1 Da.2.2.1 Da.2.2.2.1 ∈ wG) : ∀ w ∈ eWs Da, w ∈ wG := by
  rw [eWs_nil hh]
  exact List.forall_mem_cons.mpr ⟨hw, fun _ h => h⟩
theorem okx_static (d : decode D.2.1 pc = .ok (.invokestatic idx, 3)) (hh : Da.2.2.2.2 = []) (hw : Cond.code Da.1 Da.2.1 Da.2.2.1 Da.2.2.2.1 ∈ wG) (hl : Cond.methodLink D.1.cls idx Da.1 ∈ wG) (hs : Cond.static Da.1 ∈ wG) (hi : Cond.initialized Da.1.cls ∈ wG) (hd : eNm Da.1 n) : okCallX D pc (pc + 3) Da n 0 :=
  fun p l e R s m args below meth c H locs cells slots rm Pc Qc XC mc ms free As rest ls ⟨hx, hb, hml, _, ht, ho, _⟩ hsz hM hrc hrs hfr hlo hc hsl hbl hlen hpre _ hcat =>
    eRun.ofX (vx_runS (own := D.1.cls) (index := idx) (bytes := Da.2.1) (maxL := Da.2.2.1) (ret := Da.2.2.2.1) (n := n) ⟨hx, hb, hml, ho, ht⟩ hM
      (va_cwS n ht (gI (List.forall_mem_cons.mpr ⟨hl, List.forall_mem_cons.mpr ⟨hs, List.forall_mem_cons.mpr ⟨hi, eWs_in hh hw⟩⟩⟩)) (eWs_nil hh) hrc hrs hd ⟨hfr, by omega⟩)
      ⟨hbl, hpre⟩ rfl hlen hsz rfl (by show 2 * 0 + _ ≤ 8; omega) d ⟨hc, hsl⟩)
theorem rev_cons (a : Nat) (As' rest : List Value) : (Value.ref a :: As').reverse ++ rest = As'.reverse ++ Value.ref a :: rest := by simp
theorem okx_virtual (d : decode D.2.1 pc = .ok (.invokevirtual idx, 3)) (hh : Da.2.2.2.2 = []) (hw : Cond.code Da.1 Da.2.1 Da.2.2.1 Da.2.2.2.1 ∈ wG) (hl : Cond.methodLink D.1.cls idx Da.1 ∈ wG) (hs : Cond.instanceMethod Da.1 ∈ wG) (hse : Cond.selects Da.1.cls Da.1 Da.1 ∈ wG) (hi : Cond.initialized Da.1.cls ∈ wG) (hd : eNm Da.1 n) : okCallX D pc (pc + 3) Da (n + 1) 2 :=
  fun p l e R s m args below meth c H locs cells slots rm Pc Qc XC mc ms free As rest ls ⟨hx, hb, hml, _, ht, ho, _⟩ hsz hM hrc hrs hfr hlo hc hsl hbl hlen hpre hrecv hcat => by
    obtain ⟨a, As', rfl, hcell⟩ := hrecv
    rw [rev_cons]
    exact eRun.ofX (vx_runV (own := D.1.cls) (C := Da.1.cls) (index := idx) (bytes := Da.2.1) (maxL := Da.2.2.1) (ret := Da.2.2.2.1) (n := n) ⟨hx, hb, hml, ho, ht⟩ hM
      (cwV n ht (gI (List.forall_mem_cons.mpr ⟨hl, List.forall_mem_cons.mpr ⟨hs, List.forall_mem_cons.mpr ⟨hse, List.forall_mem_cons.mpr ⟨hi, eWs_in hh hw⟩⟩⟩⟩)) (eWs_nil hh) hrc hrs ⟨rfl, hd⟩ ⟨hfr, by omega⟩)
      ⟨hbl, hcell, hpre⟩ rfl (by simpa using hlen) hsz rfl (by show 2 * 0 + _ ≤ 8; omega) d ⟨hc, hsl⟩)
theorem okm_init (d : decode D.2.1 pc = .ok (.invokespecial idx, 3)) (hh : Da.2.2.2.2 = []) (hret : Da.2.2.2.1 = none) (hw : Cond.code Da.1 Da.2.1 Da.2.2.1 Da.2.2.2.1 ∈ wG) (hl : Cond.methodLink D.1.cls idx Da.1 ∈ wG) (hs : Cond.instanceMethod Da.1 ∈ wG) (hi : Cond.initialized Da.1.cls ∈ wG) (hn : Da.1.name = "<init>") (hd : eNm Da.1 n) : okCallM D pc (pc + 3) Da (n + 1) 1 :=
  fun p l e R s m args below meth c H locs cells slots rm Pc Qc XC mc ms free As rest ls cA Dg ⟨hx, hb, hml, _, ht, ho, _⟩ hK hsz hM hX hrc hrs hfr hlo hc hsl hbl hlen hpre hrecv hcat => by
    obtain ⟨a, As', rfl⟩ := hrecv
    rw [rev_cons]
    have e1 := eWs_nil hh
    rw [hret] at e1
    exact eRun.of3 (va_runI (own := D.1.cls) (index := idx) (bytes := Da.2.1) (maxL := Da.2.2.1) (n := n) ⟨hx, hb, hml, ho, ht⟩ (hM.met hX)
      (cwI n ht (gI (eWs_in hh hw)) e1 hrc hrs (ht _ hi) (ht _ hl) (ht _ hs) hn hd ⟨hfr, by omega⟩)
      ⟨hbl, hpre⟩ rfl (by simpa using hlen) hsz rfl (by show 2 * 0 + _ ≤ 8; omega) d ⟨hc, hsl⟩)
theorem okm_initN {host : String} (d : decode D.2.1 pc = .ok (.invokespecial idx, 3)) (hh : Da.2.2.2.2 = []) (hret : Da.2.2.2.1 = none) (hw : Cond.code Da.1 Da.2.1 Da.2.2.1 Da.2.2.2.1 ∈ wG) (hl : Cond.methodLinkNest D.1.cls idx Da.1 host ∈ wN) (hs : Cond.instanceMethod Da.1 ∈ wG) (hi : Cond.initialized Da.1.cls ∈ wG) (hn : Da.1.name = "<init>") (hd : eNm Da.1 n) : okCallM D pc (pc + 3) Da (n + 1) 1 :=
  fun p l e R s m args below meth c H locs cells slots rm Pc Qc XC mc ms free As rest ls cA Dg ⟨hx, hb, hml, _, ht, ho, _, _, hN, _⟩ hK hsz hM hX hrc hrs hfr hlo hc hsl hbl hlen hpre hrecv hcat => by
    obtain ⟨a, As', rfl⟩ := hrecv
    rw [rev_cons]
    have e1 := eWs_nil hh
    rw [hret] at e1
    exact eRun.of3 (va_runIN (own := D.1.cls) (index := idx) (bytes := Da.2.1) (maxL := Da.2.2.1) (n := n) (host := host) ⟨hx, hb, hml, ho, ht⟩ (hM.met hX)
      ⟨va_cnB n ht (gI (eWs_in hh hw)) e1 hrc hrs (hN _ hl) (ht _ hi) hd ⟨hfr, by omega⟩, hn, ht _ hs⟩
      ⟨hbl, hpre⟩ rfl (by simpa using hlen) hsz rfl (by show 2 * 0 + _ ≤ 8; omega) d ⟨hc, hsl⟩)
theorem okm_staticN {host : String} (d : decode D.2.1 pc = .ok (.invokestatic idx, 3)) (hh : Da.2.2.2.2 = []) (hw : Cond.code Da.1 Da.2.1 Da.2.2.1 Da.2.2.2.1 ∈ wG) (hl : Cond.methodLinkNest D.1.cls idx Da.1 host ∈ wN) (hs : Cond.static Da.1 ∈ wG) (hi : Cond.initialized Da.1.cls ∈ wG) (hd : eNm Da.1 n) : okCallM D pc (pc + 3) Da n 4 :=
  fun p l e R s m args below meth c H locs cells slots rm Pc Qc XC mc ms free As rest ls cA Dg ⟨hx, hb, hml, _, ht, ho, _, _, hN, _⟩ hK hsz hM hX hrc hrs hfr hlo hc hsl hbl hlen hpre _ hcat =>
    eRun.of3 (va_runSN (own := D.1.cls) (index := idx) (bytes := Da.2.1) (maxL := Da.2.2.1) (ret := Da.2.2.2.1) (n := n) (host := host) ⟨hx, hb, hml, ho, ht⟩ (hM.met hX)
      ⟨va_cnB n ht (gI (eWs_in hh hw)) (eWs_nil hh) hrc hrs (hN _ hl) (ht _ hi) hd ⟨hfr, by omega⟩, ht _ hs, trivial⟩
      ⟨hbl, hpre⟩ rfl hlen hsz rfl (by show 2 * 0 + _ ≤ 8; omega) d ⟨hc, hsl⟩)
theorem okm_virtualN {host : String} (d : decode D.2.1 pc = .ok (.invokevirtual idx, 3)) (hh : Da.2.2.2.2 = []) (hw : Cond.code Da.1 Da.2.1 Da.2.2.1 Da.2.2.2.1 ∈ wG) (hl : Cond.methodLinkNest D.1.cls idx Da.1 host ∈ wN) (hs : Cond.instanceMethod Da.1 ∈ wG) (hse : Cond.selects Da.1.cls Da.1 Da.1 ∈ wG) (hi : Cond.initialized Da.1.cls ∈ wG) (hd : eNm Da.1 n) : okCallM D pc (pc + 3) Da (n + 1) 5 :=
  fun p l e R s m args below meth c H locs cells slots rm Pc Qc XC mc ms free As rest ls cA Dg ⟨hx, hb, hml, _, ht, ho, _, _, hN, _⟩ hK hsz hM hX hrc hrs hfr hlo hc hsl hbl hlen hpre hrecv hcat => by
    obtain ⟨a, As', rfl, hcell⟩ := hrecv
    rw [rev_cons]
    exact eRun.of3 (va_runVN (own := D.1.cls) (C := Da.1.cls) (index := idx) (bytes := Da.2.1) (maxL := Da.2.2.1) (ret := Da.2.2.2.1) (n := n) (host := host) ⟨hx, hb, hml, ho, ht⟩ (hM.met hX)
      ⟨va_cnB n ht (gI (eWs_in hh hw)) (eWs_nil hh) hrc hrs (hN _ hl) (ht _ hi) hd ⟨hfr, by omega⟩, ht _ hs, ht _ hse⟩
      ⟨hbl, hcell, hpre⟩ rfl (by simpa using hlen) hsz rfl (by show 2 * 0 + _ ≤ 8; omega) d ⟨hc, hsl⟩)
theorem okm_iface {x : MethodName} {count ci : Nat} {T : u_T} {N : Nat} (hci : vwCl[ci]? = some (Da.1.cls, T, N)) (d : decode D.2.1 pc = .ok (.invokeinterface idx count, 5)) (hh : Da.2.2.2.2 = []) (hw : Cond.code Da.1 Da.2.1 Da.2.2.1 Da.2.2.2.1 ∈ wG) (hl : Cond.methodLink D.1.cls idx x ∈ wG) (hs : Cond.instanceMethod Da.1 ∈ wG) (hse : Cond.selects Da.1.cls x Da.1 ∈ wG) (hi : Cond.initialized Da.1.cls ∈ wG)
    (f1 : Cond.declares x ∈ wN) (f2 : Cond.interfaceMethod x.cls x.cls x.name x.desc ∈ wN) (f3 : Cond.publicMethod Da.1 ∈ wN) (f4 : Cond.unhidden Da.1.cls x.name x.desc ∈ wN) (f5 : Cond.castable Da.1.cls x.cls ∈ wN) (hd : eNm x n) : okCallM D pc (pc + 5) Da (n + 1) 3 :=
  fun p l e R s m args below meth c H locs cells slots rm Pc Qc XC mc ms free As rest ls cA Dg ⟨hx, hb, hml, _, ht, ho, _, _, hN, _⟩ hK hsz hM hX hrc hrs hfr hlo hc hsl hbl hlen hpre hrecv hcat => by
    obtain ⟨a, As', rfl, hcell⟩ := hrecv
    rw [rev_cons]
    exact eRun.of5 (va_runF (own := D.1.cls) (C := Da.1.cls) (x := x) (index := idx) (count := count) (bytes := Da.2.1) (maxL := Da.2.2.1) (ret := Da.2.2.2.1) (n := n) (hK.1 ci _ hci).2 ⟨hx, hb, hml, ho, ht⟩ (hM.met hX)
      (va_cwF n ht (gI (List.forall_mem_cons.mpr ⟨hl, List.forall_mem_cons.mpr ⟨hse, List.forall_mem_cons.mpr ⟨hs, List.forall_mem_cons.mpr ⟨hi, eWs_in hh hw⟩⟩⟩⟩)) (eWs_nil hh) hrc hrs (va_Fw.of (hN _ f1) (hN _ f2) (hN _ f3) (hN _ f4) (hN _ f5)) hd ⟨hfr, by omega⟩)
      ⟨hbl, hcell, hpre⟩ rfl (by simpa using hlen) hsz rfl (by show 2 * 0 + _ ≤ 8; omega) d ⟨hc, hsl⟩)
theorem okm_wrap {z : Nat × Nat × Nat × Nat} {zs : List (Nat × Nat × Nat × Nat)} (d : decode D.2.1 pc = .ok (.invokestatic idx, 3)) (hh : Da.2.2.2.2 = z :: zs) (hw : Cond.codeWith Da.1 Da.2.1 Da.2.2.1 Da.2.2.2.1 Da.2.2.2.2 ∈ wG) (hl : Cond.methodLink D.1.cls idx Da.1 ∈ wG) (hs : Cond.static Da.1 ∈ wG) (hi : Cond.initialized Da.1.cls ∈ wG) (hd : eNm Da.1 n) : okCallM D pc (pc + 3) Da n 4 :=
  fun p l e R s m args below meth c H locs cells slots rm Pc Qc XC mc ms free As rest ls cA Dg ⟨hx, hb, hml, _, ht, ho, _⟩ hK hsz hM hX hrc hrs hfr hlo hc hsl hbl hlen hpre _ hcat => by
    have e1 : eWs Da = Cond.codeWith Da.1 Da.2.1 Da.2.2.1 Da.2.2.2.1 Da.2.2.2.2 :: wG := by unfold eWs; rw [hh]
    exact eRun.of3 (vx_runSW (own := D.1.cls) (index := idx) (bytes := Da.2.1) (maxL := Da.2.2.1) (ret := Da.2.2.2.1) (hh := Da.2.2.2.2) (n := n) ⟨hx, hb, hml, ho, ht⟩ (hM.met hX)
      (vx_cwSW n ht (gI (List.forall_mem_cons.mpr ⟨hl, List.forall_mem_cons.mpr ⟨hs, List.forall_mem_cons.mpr ⟨hi, by rw [e1]; exact List.forall_mem_cons.mpr ⟨hw, fun _ h => h⟩⟩⟩⟩)) e1 hrc hrs hd ⟨hfr, by omega⟩)
      ⟨hbl, hpre⟩ rfl hlen hsz rfl (by show 2 * 0 + _ ≤ 8; omega) d ⟨hc, hsl⟩)
end OKC
