/-! the claim (rows of the skeleton, and whole_start) -/
/-- what holds at the law's entry: the machine, the code, the tables' words (any of lw_tbl by 'hts w (by decide +kernel)'), the script of L ints xs at the cell b, what the Statement gives of the start (any of its parts by flat_of_before) -/
def lw_At (p : Program) (s : State) (m : MethodId) (meth : Method) (c : Code) (b L : Nat) (xs : Nat → Int32) : Prop :=
  p.tables.exec = Jvm.exec ∧ c.code = code ∧ meth.sig.returnType = ret ∧ c.maxLocals = 10 ∧ s.vm.findClass R_law = some m.cls ∧ (∀ w ∈ lw_tbl, w.before #[Value.ref b] s = true) ∧ va_X b L xs s s.heap ∧ b < s.heap.size ∧ meth.locks = false ∧ (Jvm.Cond.and given_1 narrow_1).before #[Value.ref b] s = true ∧ meth.name = "law" ∧ c.exceptionTable.toList = []
/-- from the entry, for every script of at most 3 ints, the law comes to its end with true -/
theorem whole_start {p : Program} {e : Env} {s : State} {m : MethodId} {below : List Frame} {meth : Method} {c : Code} (l : Launch) (hflags : l.flags = flags0) {b L : Nat} {xs : Nat → Int32} (hL : L ≤ 3) (C0 : lw_At p s m meth c b L xs) : W p l e room_1 s m #[Value.ref b] below meth c s.heap [] 0 0 (lw_Z below #[Value.ref b] s) (entryFrame m ([Value.ref b] : List Value).toArray 10) := by
  obtain ⟨hx, hb, hret, hml, hown, hts, hX, hbl, hlk, hgv, hname, htab⟩ := C0
  have hlt : l.stackTraces = false := by
    unfold Launch.stackTraces
    rw [hflags]
    decide +kernel
  obtain ⟨X1, h9, hE⟩ := st_all hts (flat_of_before _ hgv)
  obtain ⟨Dg, hD1⟩ := st_cls hts
  obtain ⟨cA, hD2⟩ := st_arr hts
  have hK : va_K Dg vwCl (TYs cA) s := ⟨hD1, hD2⟩
  obtain ⟨a4, a5, G, K, hG, hKw, hKk, hrun⟩ : ∃ (a4 a5 : Int32) (G : eG) (K : List eK), (∀ X1 : Nat → Nat, e_ok0 (X1, lw_X2 xs a4 a5) G) ∧ kWf K ∧ (∀ (l : Launch) (X : eX), l.stackTraces = false → e_ok0 X G → ∀ k ∈ K, kOk l X k) ∧ l_go G K L = true := by
    have hG0 : ∀ X1 : Nat → Nat, e_ok0 (X1, lw_X2 xs 0 0) (([], []) : eG) := fun X1 => ⟨fun j lo hi hg => (by rw [e_get_eq] at hg; cases hg), fun o i c r h => absurd h List.not_mem_nil, (gC_ok (x := xs) (a4 := 0) (a5 := 0) (k := (and31 (xs 0)).choose) (b1 := (0, 4294967295)) (b2 := (0, 4294967295)) (and31 (xs 0)).choose_spec.2 (and31 (xs 0)).choose_spec.1 (ibF _) (ibF _) m0 f0 X1).2.2⟩
    match L, hL with
    | 0, _ => exact ⟨0, 0, ([], []), [], hG0, fun k hk => absurd hk List.not_mem_nil, fun _ _ _ _ k hk => absurd hk List.not_mem_nil, lw_L0⟩
    | 1, _ => exact ⟨0, 0, ([], []), [], hG0, fun k hk => absurd hk List.not_mem_nil, fun _ _ _ _ k hk => absurd hk List.not_mem_nil, lw_L1⟩
    | 2, _ => exact ⟨0, 0, ([], []), [], hG0, fun k hk => absurd hk List.not_mem_nil, fun _ _ _ _ k hk => absurd hk List.not_mem_nil, lw_L2⟩
    | 3, _ => exact ca_all xs
    | L + 4, h => omega
  have hC : eCx p s m #[.ref b] meth c mD223 := ⟨hx, hb, hml, hret, fun w hw => hts w (List.mem_filter.mp hw).1, hown, hlk, hname, (hE (fun _ => 0)).1, htab⟩
  have hF : eFix p s m #[.ref b] meth c mD223 (X1, lw_X2 xs a4 a5) cA Dg (fun q => s.heap.size ≤ q) := ⟨hC, hK, fun _ h => h, hE _⟩
  have hG1 := hG X1
  have hxs : ∀ j, j < 3 → (lw_X2 xs a4 a5) j = xs j := fun j hj => by
    match j, hj with
    | 0, _ => rfl
    | 1, _ => rfl
    | 2, _ => rfl
    | j + 3, h => omega
  have hwl : e_okLs ([] : eH).length [(0, ((3, 9) : eV))] := List.forall_mem_cons.mpr ⟨fun q => absurd (show (3 : Nat) = 2 from q) (by decide), fun _ h => absurd h List.not_mem_nil⟩
  have hG00 : e_ok0 (X1, lw_X2 xs a4 a5) (([], []) : eG) := ⟨fun j lo hi hg => (by rw [e_get_eq] at hg; cases hg), fun o i c r h => absurd h List.not_mem_nil, hG1.2.2⟩
  have hK0 : kWf [] := fun k hk => absurd hk List.not_mem_nil
  have hKk0 : ∀ k ∈ ([] : List eK), kOk l (X1, lw_X2 xs a4 a5) k := fun k hk => absurd hk List.not_mem_nil
  obtain ⟨-, w2, w3, w4, -⟩ := run_wf pgOk hG00 hK0 1000000 223 0 [(0, (3, 9))] [] [] 0 0 0 0 _ lw_pre (fun _ h => absurd h List.not_mem_nil) hwl (fun _ h => absurd h List.not_mem_nil)
  have go := run_ok pgOk hlt hG00 hK0 hKk0 1000000 223 0 [(0, (3, 9))] [] [] 0 0 0 0 _ lw_pre (fun _ h => absurd h List.not_mem_nil) hwl (fun _ h => absurd h List.not_mem_nil) p e room_1 s m #[.ref b] below meth c cA Dg (fun q => s.heap.size ≤ q) (lw_Z below #[Value.ref b] s) (fun _ => 0) s.heap [] hF (by decide) (by decide) (by decide) (by decide)
    (fun ρ' H' locs' hρ => l_ok pgOk hlt hG1 hKw (hKk l _ hlt hG1) hF h9 hX hbl hxs hL 200 _ _ _ _ _ _ _ _ hrun w2 w3 w4 ρ' H' locs')
  rw [lg_entry_eq]
  have hl := lv_entry [Value.ref b] (show (1 : Nat) ≤ 10 by decide)
  refine go _ ?_ (fun k q hq => (by cases hq)) ⟨fun i j p q hp => (by cases hp), fun k q hq => (by cases hq)⟩ va_S.rf
  have e1 : lv_args 0 [Value.ref b] = c_ls (X1, lw_X2 xs a4 a5) (fun _ => 0) [(0, (3, 9))] := by
    show [(0, Value.ref b)] = [(0, Value.ref (X1 9))]
    rw [h9]
  rw [← e1]
  exact hl
set_option maxHeartbeats 4000000 in
theorem lw_walk (l : Launch) (hflags : l.flags = flags0) (b : Addr) (xs : List Int32) : MetFree l x (headSpec (Jvm.Cond.code x code maxLocals ret :: tables_1) room_1) (lw_P b xs) (fun _ _ _ _ _ => True) lw_Q := by
  refine MetFree.of_bodyS (code := code) (maxLocals := maxLocals) (ret := ret) (by decide) ?_ ?_
  · intro args s m h hn
    obtain ⟨meth, c, h1, h2, h3, h4, h5, h6, -, -⟩ := Cond.code_spec hn (atoms_spec (ws := Jvm.Cond.code x code maxLocals ret :: tables_1) h _ List.mem_cons_self)
    exact ⟨meth, c, h1, h2, h3, h4, h5, h6⟩
  · intro p e s m args below meth c s₁ B hml0 hP _
    obtain ⟨rfl, hx, hbd, hgv⟩ := hP
    obtain ⟨scr, harrAt, hlist, hof, hsmall⟩ := hx
    obtain ⟨hcb, hkn, -, -⟩ := State.arrayAt?_spec harrAt
    have hown : s.vm.findClass R_law = some m.cls := findClass_of_methodNamed B.named
    have hts0 : ∀ c ∈ (Jvm.Cond.code x code maxLocals ret :: tables_1), c.before #[Value.ref b] s = true := atoms_spec (ws := Jvm.Cond.code x code maxLocals ret :: tables_1) B.pre
    have hts : ∀ w ∈ lw_tbl, w.before #[Value.ref b] s = true := k2_hts_sels lw_privs (fun w hw => hts0 w (List.mem_cons_of_mem _ hw)) lw_privs_ok
    have hml : c.maxLocals = 10 := B.maxLocals_eq (hts0 _ List.mem_cons_self)
    have X₀ : Stand p l e room_1 s m #[Value.ref b] below meth c s₁ [] 0 0 := Stand.of_body B
    have hh0 : s₁.heap = s.heap := by rw [B.state]; rfl
    have hsz : scr.slots.size = xs.length := by rw [← Array.length_toList, hlist, List.length_map]
    have hval : ∀ j : Nat, j < xs.length → scr.slots[j]? = some (.int (xs.getD j 0)) := fun j hj => by
      rw [← Array.getElem?_toList, hlist]
      simp [hj]
    have hbl : b < s.heap.size := (Array.getElem?_eq_some_iff.mp hcb).1
    have hX : va_X b xs.length (fun j => xs.getD j 0) s s.heap := ⟨scr, hcb, hof, hkn, hsz, hval⟩
    have K : W p l e room_1 s m #[Value.ref b] below meth c s₁.heap [] 0 0 (lw_Z below #[Value.ref b] s) (entryFrame m ([Value.ref b] : List Value).toArray 10) := by
      rw [hh0]
      exact whole_start l hflags hbd ⟨B.exec, B.bytes, B.returns, hml, hown, hts, hX, hbl, B.notSynchronized, hgv, (name_of_methodNamed B.named B.method).1, by
        obtain ⟨meth9, c9, g1, g2, -, -, -, -, g7, -⟩ := Cond.code_spec B.named (hts0 _ List.mem_cons_self)
        cases Option.some.inj (g1.symm.trans B.method)
        cases Option.some.inj (g2.symm.trans (Stand.of_body B).code)
        rw [Array.isEmpty_iff.mp g7]⟩
    obtain ⟨t, a1, o, b1, b2, b3⟩ := K s₁ rfl X₀
    exact ⟨t, o, a1, b1, b2, b3⟩
theorem lw_pre_spec {args : Array Value} {s : State} (h : (Jvm.Cond.and given_1 narrow_1).before args s = true) (hr : rest_1_c.before args s = true) : ∃ (b : Addr) (xs : List Int32), lw_P b xs args s := by
  have hs := flat_of_before _ h
  have hq := flat_of_before _ hr
  have hc : (Cond.count 1).before args s = true := hs _ (by decide +kernel)
  have harr : (Cond.arrayOf (.arg 0) .int).before args s = true := hs _ (by decide +kernel)
  have hle : (Cond.le (.length (.arg 0)) (.int 3)).before args s = true := hs _ (by decide +kernel)
  have hlen : (Cond.isInt (.length (.arg 0))).before args s = true := hq _ (by decide +kernel)
  have hall : (Cond.all (.arg 0) (.isInt (.elem (.arg 0) (.index 0)))).before args s = true := hq _ (by decide +kernel)
  obtain ⟨b, xs, hb, hx⟩ := State.ints_of_pre rfl harr hlen hall
  have hsm : xs.length < 2 ^ 31 := hx.choose_spec.2.2.2
  have hev : (Term.length (.arg 0)).eval args s none [] s = some (.int xs.length.toInt32) := hx.length_eval hb
  have hv := Cond.le_ints hev (show (Term.int 3).eval args s none [] s = some (.int 3) from rfl)
  have hd : xs.length.toInt32 ≤ 3 := by
    simpa [Cond.before, Cond.holds, hv] using hle
  have hN : xs.length ≤ 3 := (Int32.ofNat_le_ofNat hsm (by decide)).mp (show Int32.ofNat xs.length ≤ Int32.ofNat 3 from hd)
  exact ⟨b, xs, Cond.one_arg hc (show args[0]? = some (.ref b) from hb), hx, hN, h⟩
theorem lw_comes (l : Launch) (hflags : l.flags = flags0) : Comes l x (Jvm.Cond.code x code maxLocals ret :: tables_1) room_1 (fun tb e args s => Calls_1 tb e args s ∧ rest_1 tb e args s ∧ Pre_1 tb e args s)
    (fun _ _ args s o t => lw_Q args s o t) := by
  intro p e ha hc hk s m args below hf hfit hheap happ hpre
  obtain ⟨b, xs, hP⟩ := lw_pre_spec hpre.2.2 hpre.2.1
  obtain ⟨k, o, h1, h2, h3, hQ⟩ := lw_walk l hflags b xs p e ha hc hk s m args below hf ((Spec.applies_iff_loose hf).mp happ).1 hP trivial
  exact ⟨k, o, h1, h2, h3, hQ⟩
theorem lw_frame {s t : State} {o : Outcome} {args : Array Value} (h : State.butDraws s t lw_cs (fun t1 => Framed s o t1 [] 600006 7302064)) :
    State.butDraws s t [Jvm.Choice.named "NaN.bits", Jvm.Choice.named "NaN.copy"] (fun t1 => Framed s o t1 (fieldLocs frame_1_writes args s ++ arrayLocs frame_1_arrays args s ++ staticLocs frame_1_statics s) 600006 7302064) := h
theorem lw_limb (L : Cond) (hL : ∀ (args : Array Value) (s t : State), L.after args s (.returned (some (.int 1))) t = true) :
    ArmFor flags0 classFile x code maxLocals ret World_1 tables_1 room_1 Calls_1 rest_1 Pre_1
      (fun tb e a s o t => postC L tb e a s o t ∧ State.butDraws s t [Jvm.Choice.named "NaN.bits", Jvm.Choice.named "NaN.copy"] (fun t1 => Framed s o t1 (fieldLocs frame_1_writes a s ++ arrayLocs frame_1_arrays a s ++ staticLocs frame_1_statics s) 600006 7302064)) := by
  intro l hflags _ _ p e ha hc hk s m args below hf hfit hheap happ hpre
  obtain ⟨k, o, h1, h2, h3, rfl, hF⟩ := lw_comes l hflags p e ha hc hk s m args below hf hfit hheap happ hpre
  exact ⟨k, _, h1, h2, h3, hL args s _, lw_frame hF⟩
theorem i_vc : Claimed_1_1 ∧ Claimed_1_2 := ⟨lw_limb limb_1_1 (fun args s t => by simp [limb_1_1, Cond.after, Cond.holds, Cond.value]), lw_limb limb_1_2 (fun args s t => Cond.after_iff.mpr (by
  first | (rw [show limb_1_2 = Cond.eq .result (.int 1) from rfl, Cond.eq_ints (x := 1) (y := 1) rfl rfl]; simp; done) | (simp [limb_1_2, Cond.value, Term.eval]; done)))⟩
