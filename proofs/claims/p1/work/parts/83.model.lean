/-! the methods that reckon with doubles, walked -/
section MS
variable {p : Program} {l : Launch} {e : Env} {R : Room} {s : State} {m : MethodId} {args : Array Value} {below : List Frame} {meth : Method} {c : Code} {H : Heap} {locs : List Loc} {cells slots : Nat} {Q : State → Prop}
variable {D : eD} {pc nx i a tgt : Nat} {ls : Array Slot} {st : List Value} {lv lv' : List (Nat × Value)} {V : Value} {x y r : Int32}
theorem ms_push (hC : eCx p s m args meth c D) (h : okPush D pc nx V) (k : W p l e R s m args below meth c H locs cells slots Q (F0 m nx ls (V :: st))) : W p l e R s m args below meth c H locs cells slots Q (F0 m pc ls st) := h ls st p l e R s m args below meth c H locs cells slots Q hC k
theorem ms_load (hC : eCx p s m args meth c D) (hl : lv_has ls D.2.2.1 lv) (h : okLoad D pc nx i a) (hv : kV i V) (hm : (a, V) ∈ lv) (k : W p l e R s m args below meth c H locs cells slots Q (F0 m nx ls (V :: st))) : W p l e R s m args below meth c H locs cells slots Q (F0 m pc ls st) := h ls st V hv (hl.2.2 _ hm) p l e R s m args below meth c H locs cells slots Q hC k
theorem ms_st1 (hC : eCx p s m args meth c D) (hl : lv_has ls D.2.2.1 lv) (h : okStore1 D pc nx i a) (hv : kV i V) (hf : (a, V) :: lv.filter (fun q => !(q.1 == a) && !(q.1 + 1 == a && q.2.category == 2)) = lv') (k : ∀ ls', lv_has ls' D.2.2.1 lv' → W p l e R s m args below meth c H locs cells slots Q (F0 m nx ls' st)) : W p l e R s m args below meth c H locs cells slots Q (F0 m pc ls (V :: st)) := h ls lv st V hv hl p l e R s m args below meth c H locs cells slots Q hC (fun ls' h' => k ls' (hf ▸ h'))
theorem ms_st2 (hC : eCx p s m args meth c D) (hl : lv_has ls D.2.2.1 lv) (h : okStore2 D pc nx i a) (hv : kV i V) (hf : (a, V) :: lv.filter (fun q => !(q.1 == a) && (!(q.1 == a + 1) && !(q.1 + 1 == a && q.2.category == 2))) = lv') (k : ∀ ls', lv_has ls' D.2.2.1 lv' → W p l e R s m args below meth c H locs cells slots Q (F0 m nx ls' st)) : W p l e R s m args below meth c H locs cells slots Q (F0 m pc ls (V :: st)) := h ls lv st V hv hl p l e R s m args below meth c H locs cells slots Q hC (fun ls' h' => k ls' (hf ▸ h'))
theorem ms_inc {b : Nat} (hC : eCx p s m args meth c D) (hl : lv_has ls D.2.2.1 lv) (h : okIinc D pc nx a b) (hm : (a, Value.int x) ∈ lv) (hr : x + nI b = r) (hf : (a, Value.int r) :: lv.filter (fun q => !(q.1 == a) && !(q.1 + 1 == a && q.2.category == 2)) = lv') (k : ∀ ls', lv_has ls' D.2.2.1 lv' → W p l e R s m args below meth c H locs cells slots Q (F0 m nx ls' st)) : W p l e R s m args below meth c H locs cells slots Q (F0 m pc ls st) := by
  subst hr
  exact h ls lv st x hl hm p l e R s m args below meth c H locs cells slots Q hC (fun ls' h' => k ls' (hf ▸ h'))
theorem ms_goto (hC : eCx p s m args meth c D) (h : okGoto D pc nx) (k : W p l e R s m args below meth c H locs cells slots Q (F0 m nx ls st)) : W p l e R s m args below meth c H locs cells slots Q (F0 m pc ls st) := h ls st p l e R s m args below meth c H locs cells slots Q hC k
theorem ms_bin (hC : eCx p s m args meth c D) (h : okBin D pc nx i) (hr : e_binR i x y r) (k : W p l e R s m args below meth c H locs cells slots Q (F0 m nx ls (.int r :: st))) : W p l e R s m args below meth c H locs cells slots Q (F0 m pc ls (.int y :: .int x :: st)) := h ls st x y r hr p l e R s m args below meth c H locs cells slots Q hC k
theorem ms_ift (hC : eCx p s m args meth c D) (h : okIf D pc nx tgt i) (hr : e_condR i x 0) (k : W p l e R s m args below meth c H locs cells slots Q (F0 m tgt ls st)) : W p l e R s m args below meth c H locs cells slots Q (F0 m pc ls (.int x :: st)) := h ls st x p l e R s m args below meth c H locs cells slots Q hC (fun _ => k) (fun q => absurd hr q)
theorem ms_iff (hC : eCx p s m args meth c D) (h : okIf D pc nx tgt i) (hr : ¬ e_condR i x 0) (k : W p l e R s m args below meth c H locs cells slots Q (F0 m nx ls st)) : W p l e R s m args below meth c H locs cells slots Q (F0 m pc ls (.int x :: st)) := h ls st x p l e R s m args below meth c H locs cells slots Q hC (fun q => absurd q hr) (fun _ => k)
theorem ms_ct (hC : eCx p s m args meth c D) (h : okIcmp D pc nx tgt i) (hr : e_condR i x y) (k : W p l e R s m args below meth c H locs cells slots Q (F0 m tgt ls st)) : W p l e R s m args below meth c H locs cells slots Q (F0 m pc ls (.int y :: .int x :: st)) := h ls st x y p l e R s m args below meth c H locs cells slots Q hC (fun _ => k) (fun q => absurd hr q)
theorem ms_cf (hC : eCx p s m args meth c D) (h : okIcmp D pc nx tgt i) (hr : ¬ e_condR i x y) (k : W p l e R s m args below meth c H locs cells slots Q (F0 m nx ls st)) : W p l e R s m args below meth c H locs cells slots Q (F0 m pc ls (.int y :: .int x :: st)) := h ls st x y p l e R s m args below meth c H locs cells slots Q hC (fun q => absurd q hr) (fun _ => k)
theorem ms_get {cA : Nat → ClassId} {Dg : va_G} {ws : va_W} {q0 ci k a9 : Nat} {fs : List Value} {X : eX} (hC : eCx p s m args meth c D) (hK : va_K Dg vwCl (TYs cA) s) (hP : va_P Dg vwCl ws H) (h : okGetf D pc nx ci k ∧ okGetx D pc nx ci k) (he : ws[q0]? = some (a9, .inr (ci, fs))) (hv : fs[k]? = some V) (kk : W p l e R s m args below meth c H locs cells slots Q (F0 m nx ls (V :: st))) : W p l e R s m args below meth c H locs cells slots Q (F0 m pc ls (.ref a9 :: st)) := h.1 p l e R s m args below meth c H locs cells slots Q cA Dg ws a9 q0 fs V ls st hC hK hP he hv kk
theorem ms_ald {cA : Nat → ClassId} {Dg : va_G} {ws : va_W} {q0 a9 k : Nat} {el : List eV} {X : eX} {ρ : Nat → Nat} (hC : eCx p s m args meth c D) (hK : va_K Dg vwCl (TYs cA) s) (hP : va_P Dg vwCl ws H) (h : okAld D pc nx 0 ∧ okAlx D pc nx 0) (he : ws[q0]? = some (a9, .inl (cA 0, c_a X ρ 0 ((4, k) :: el)))) (kk : W p l e R s m args below meth c H locs cells slots Q (F0 m nx ls (.int (X.2 k) :: st))) : W p l e R s m args below meth c H locs cells slots Q (F0 m pc ls (.int (nI 0) :: .ref a9 :: st)) := h.1 p l e R s m args below meth c H locs cells slots Q X ρ cA Dg ws a9 q0 0 ((4, k) :: el) (4, k) ls st hC hK hP he (by decide) rfl rfl kk
end MS
/-- what is asked of a start: nothing of the world, or the ore with its one sample -/
def mdPc (As : List Value) (B : State → Prop) : Array Value → State → Prop := va_Pc As (fun U => (∀ w ∈ wN, va_Nw w U) ∧ B U)
def mdQ (V : Value) : Array Value → State → Outcome → State → Prop := fun _ st o t => o = .returned (some V) ∧ t.heap = st.heap
def mdX : String → State → State → Prop := fun _ _ _ => False
theorem md_met {l : Launch} {D : eD} {As : List Value} {B : State → Prop} {V : Value} {rm : Room} {mc ms : Nat} (hh : D.2.2.2.2 = []) (hy : plainFor D.1 = true) (hlen : (As.map fun v => v.category).sum ≤ D.2.2.1)
    (body : ∀ (p : Program) (e : Env) (s : State) (m : MethodId) (args : Array Value) (below : List Frame) (meth : Method) (c : Code) (ls : Array Slot), eCx p s m args meth c D → (∀ w ∈ wN, va_Nw w s) → B s → lv_has ls D.2.2.1 (lv_args 0 As) → W p l e rm s m args below meth c s.heap [] 0 0 (vx_MQ below (mdQ V) mdX args s mc ms (fun _ => False)) (F0 m 0 ls [])) : eMet l D rm (mdPc As B) (mdQ V) mdX mc ms (fun _ => False) := by
  unfold eMet
  refine ea_ofW hy (eWs_nil hh) (fun p e s m args below meth c s₁ B9 hml hno hv => ?_)
  obtain ⟨rfl, hN, hB⟩ := hv
  have hts := atoms_spec (ws := eWs D) B9.pre
  have hC : eCx p s m As.toArray meth c D := ⟨B9.exec, B9.bytes, hml, B9.returns, fun w hw => hts w (List.mem_cons_of_mem _ hw), findClass_of_methodNamed B9.named, B9.notSynchronized, (name_of_methodNamed B9.named B9.method).1, hN, by rw [hh]; exact List.eq_nil_iff_forall_not_mem.mpr hno⟩
  rw [lg_entry_eq]
  exact body p e s m _ below meth c _ hC hN hB (lv_entry As (by rw [lg_len]; exact hlen))
theorem md_hN {s U : State} (hW : s.WarmedH U.vm) (h : ∀ w ∈ wN, va_Nw w s) : ∀ w ∈ wN, va_Nw w U := fun w hw => e_nk_warm (List.mem_filter.mp hw).2 hW (h w hw)
/-- a call whose end leaves the heap -/
theorem md_call {p : Program} {l : Launch} {e : Env} {R : Room} {s : State} {m : MethodId} {args : Array Value} {below : List Frame} {meth : Method} {c : Code} {H : Heap} {locs : List Loc} {cells slots pc nx b kind : Nat} {ls : Array Slot} {Q : State → Prop} {D Da : eD} {rm : Room} {As rest : List Value} {B : State → Prop} {V : Value} {cA : Nat → ClassId} {Dg : va_G} (hC : eCx p s m args meth c D) (hK : va_K Dg vwCl (TYs cA) s) (hN : ∀ w ∈ wN, va_Nw w s) (hsz : ls.size = D.2.2.1) (h : okCallM D pc nx Da b kind) (hM : eMet l Da rm (mdPc As B) (mdQ V) mdX 0 0 (fun _ => False)) (h1 : rm.cells = 0) (h2 : rm.slots = 0) (h3 : rm.frames + 1 ≤ R.frames) (h4 : 19 + Da.2.2.1 + rm.locals ≤ R.locals) (hc : cells ≤ R.cells) (hs : slots ≤ R.slots) (hbl : FrameBlind (mdPc As B)) (hlen : As.length = b) (hB : ∀ U : State, U.heap = H → s.WarmedH U.vm → B U) (hr : eRecv kind Da s H As) (hcat : (rest.map fun v => v.category).sum ≤ 8)
    (kk : W p l e R s m args below meth c H locs cells slots Q (F0 m nx ls (V :: rest))) : W p l e R s m args below meth c H locs cells slots Q (F0 m pc ls (As.reverse ++ rest)) := by
  have er := h p l e R s m args below meth c H locs cells slots rm _ _ mdX 0 0 (fun _ => False) As rest ls cA Dg hC hK hsz hM (fun _ _ _ q => q) h1 h2 h3 h4 (by omega) (by omega) hbl hlen (fun U hU hW => ⟨rfl, md_hN hW hN, hB U hU hW⟩) hr hcat
  refine eRun.go er (fun v st₀ t L h0 hL hal hq => ?_) (fun q st₀ t L E ce h0 hL hal hx _ _ _ => absurd hx id)
  obtain ⟨hv, ht⟩ := hq
  have hL9 : L = [] := by
    cases L with
    | nil => rfl
    | cons a t => exact absurd (hL a List.mem_cons_self) id
  subst hL9
  have hv : v = some V := by injection hv
  subst hv
  rw [ht, h0, List.append_nil]
  exact kk
theorem md_blind {As : List Value} {B : State → Prop} (hB : FrameBlind (fun _ U => B U)) : FrameBlind (mdPc As B) := fun a U g mk ⟨q0, q1, q2⟩ => ⟨q0, md_hN (U := U.calling g mk a) (State.WarmedH.refl U) q1, hB a U g mk q2⟩
theorem md_squ (l : Launch) (x y : Int32) : eMet l mD66 { frames := 0, cells := 0, slots := 0, locals := 0 } (mdPc [.int x, .int y] (fun _ => True)) (mdQ (.int (md_sq x y))) mdX 0 0 (fun _ => False) := by
  refine md_met rfl (by decide +kernel) (show (2 : Nat) ≤ 4 by decide) (fun p e s m args below meth c ls hC hN _ hl => ?_)
  refine ms_load hC hl t66_0 ⟨_, rfl⟩ (List.mem_of_getElem? (i := 0) rfl) ?_
  refine ms_push (V := .int (nI 10)) hC (okc_bipush dX3_squareBetween_1 (by decide +kernel)) ?_
  refine ms_bin (r := (x - x / (nI 10) * (nI 10))) hC t66_3 ⟨by decide, rfl⟩ ?_
  refine ms_load hC hl t66_4 ⟨_, rfl⟩ (List.mem_of_getElem? (i := 1) rfl) ?_
  refine ms_push (V := .int (nI 10)) hC (okc_bipush dX3_squareBetween_5 (by decide +kernel)) ?_
  refine ms_bin (r := (y - y / (nI 10) * (nI 10))) hC t66_7 ⟨by decide, rfl⟩ ?_
  refine ms_bin (r := ((x - x / (nI 10) * (nI 10)) - (y - y / (nI 10) * (nI 10)))) hC t66_8 rfl ?_
  refine ms_st1 (lv' := [(2, .int ((x - x / (nI 10) * (nI 10)) - (y - y / (nI 10) * (nI 10)))), (0, .int x), (1, .int y)]) hC hl t66_9 ⟨_, rfl⟩ rfl (fun ls hl => ?_)
  refine ms_load hC hl t66_10 ⟨_, rfl⟩ (List.mem_of_getElem? (i := 1) rfl) ?_
  refine ms_push (V := .int (nI 10)) hC (okc_bipush dX3_squareBetween_11 (by decide +kernel)) ?_
  refine ms_bin (r := (x / (nI 10))) hC t66_13 ⟨by decide, rfl⟩ ?_
  refine ms_load hC hl t66_14 ⟨_, rfl⟩ (List.mem_of_getElem? (i := 2) rfl) ?_
  refine ms_push (V := .int (nI 10)) hC (okc_bipush dX3_squareBetween_15 (by decide +kernel)) ?_
  refine ms_bin (r := (y / (nI 10))) hC t66_17 ⟨by decide, rfl⟩ ?_
  refine ms_bin (r := ((x / (nI 10)) - (y / (nI 10)))) hC t66_18 rfl ?_
  refine ms_st1 (lv' := [(3, .int ((x / (nI 10)) - (y / (nI 10)))), (2, .int ((x - x / (nI 10) * (nI 10)) - (y - y / (nI 10) * (nI 10)))), (0, .int x), (1, .int y)]) hC hl t66_19 ⟨_, rfl⟩ rfl (fun ls hl => ?_)
  refine ms_load hC hl t66_20 ⟨_, rfl⟩ (List.mem_of_getElem? (i := 1) rfl) ?_
  refine ms_load hC hl t66_21 ⟨_, rfl⟩ (List.mem_of_getElem? (i := 1) rfl) ?_
  refine ms_bin (r := (((x - x / (nI 10) * (nI 10)) - (y - y / (nI 10) * (nI 10))) * ((x - x / (nI 10) * (nI 10)) - (y - y / (nI 10) * (nI 10))))) hC t66_22 rfl ?_
  refine ms_push (V := .int (nI 4)) hC (okc_iconst dX3_squareBetween_23 (by decide +kernel)) ?_
  refine ms_load hC hl t66_24 ⟨_, rfl⟩ (List.mem_of_getElem? (i := 0) rfl) ?_
  refine ms_bin (r := ((nI 4) * ((x / (nI 10)) - (y / (nI 10))))) hC t66_25 rfl ?_
  refine ms_load hC hl t66_26 ⟨_, rfl⟩ (List.mem_of_getElem? (i := 0) rfl) ?_
  refine ms_bin (r := (((nI 4) * ((x / (nI 10)) - (y / (nI 10)))) * ((x / (nI 10)) - (y / (nI 10))))) hC t66_27 rfl ?_
  refine ms_bin (r := ((((x - x / (nI 10) * (nI 10)) - (y - y / (nI 10) * (nI 10))) * ((x - x / (nI 10) * (nI 10)) - (y - y / (nI 10) * (nI 10)))) + (((nI 4) * ((x / (nI 10)) - (y / (nI 10)))) * ((x / (nI 10)) - (y / (nI 10)))))) hC t66_28 rfl ?_
  exact t66_29 p l e _ s m args below meth c s.heap [] 0 0 _ _ 0 0 _ _ ls hC ⟨_, rfl⟩ (fun t ht _ => ⟨rfl, ht⟩) (fun q h => absurd h List.not_mem_nil) (Nat.le_refl _) (Nat.le_refl _)
theorem md_tn1 {x : UInt64} (h : 0 < Op.cmpValue (FP.dcmp (md_r x) md_half) .l) : md_tn x = FP.d2i x + nI 1 := by
  unfold md_tn
  exact if_pos h
theorem md_tn2 {x : UInt64} (h : ¬ 0 < Op.cmpValue (FP.dcmp (md_r x) md_half) .l) (h2 : Op.cmpValue (FP.dcmp (md_r x) md_half) .l = 0) (h3 : FP.d2i x - FP.d2i x / nI 2 * nI 2 = 0) : md_tn x = FP.d2i x := by
  unfold md_tn
  exact (if_neg h).trans ((if_pos h2).trans (if_pos h3))
theorem md_tn3 {x : UInt64} (h : ¬ 0 < Op.cmpValue (FP.dcmp (md_r x) md_half) .l) (h2 : Op.cmpValue (FP.dcmp (md_r x) md_half) .l = 0) (h3 : ¬ FP.d2i x - FP.d2i x / nI 2 * nI 2 = 0) : md_tn x = FP.d2i x + nI 1 := by
  unfold md_tn
  exact (if_neg h).trans ((if_pos h2).trans (if_neg h3))
theorem md_tn4 {x : UInt64} (h : ¬ 0 < Op.cmpValue (FP.dcmp (md_r x) md_half) .l) (h2 : ¬ Op.cmpValue (FP.dcmp (md_r x) md_half) .l = 0) : md_tn x = FP.d2i x := by
  unfold md_tn
  exact (if_neg h).trans (if_neg h2)
theorem md_ton (l : Launch) (x : UInt64) (hn : vf_n64 (md_r x)) : eMet l mD36 { frames := 0, cells := 0, slots := 0, locals := 0 } (mdPc [.double x] (fun _ => True)) (mdQ (.int (md_tn x))) mdX 0 0 (fun _ => False) := by
  refine md_met rfl (by decide +kernel) (show (2 : Nat) ≤ 6 by decide) (fun p e s m args below meth c ls hC hN _ hl => ?_)
  by_cases c1 : 0 < Op.cmpValue (FP.dcmp (md_r x) md_half) .l
  · have c1 : e_condR 4 (Op.cmpValue (FP.dcmp (md_r x) md_half) .l) 0 := c1
    refine ms_load hC hl t36_0 ⟨_, rfl⟩ (List.mem_of_getElem? (i := 0) rfl) ?_
    refine lv_d2i hC.1 hC.2.1 dX9_toNearest_1 ?_
    refine ms_st1 (lv' := [(2, .int (FP.d2i x)), (0, .double x)]) hC hl t36_2 ⟨_, rfl⟩ rfl (fun ls hl => ?_)
    refine ms_load hC hl t36_3 ⟨_, rfl⟩ (List.mem_of_getElem? (i := 1) rfl) ?_
    refine ms_load hC hl t36_4 ⟨_, rfl⟩ (List.mem_of_getElem? (i := 0) rfl) ?_
    refine lv_i2d hC.1 hC.2.1 dX9_toNearest_5 ?_
    refine lv_dsub hC.1 hC.2.1 dX9_toNearest_6 hn ?_
    refine ms_st2 (lv' := [(3, .double (FP.dsub x (FP.i2d (FP.d2i x)))), (2, .int (FP.d2i x)), (0, .double x)]) hC hl t36_7 ⟨_, rfl⟩ rfl (fun ls hl => ?_)
    refine ms_load hC hl t36_8 ⟨_, rfl⟩ (List.mem_of_getElem? (i := 0) rfl) ?_
    refine ms_push (V := .double md_half) hC t36_9 ?_
    refine lv_dcmp hC.1 hC.2.1 dX9_toNearest_12 ?_
    refine ms_ift hC t36_13 c1 ?_
    refine ms_push (V := .int (nI 1)) hC (okc_iconst dX9_toNearest_30 (by decide +kernel)) ?_
    refine ms_goto hC t36_31 ?_
    refine ms_st1 (lv' := [(5, .int (nI 1)), (3, .double (FP.dsub x (FP.i2d (FP.d2i x)))), (2, .int (FP.d2i x)), (0, .double x)]) hC hl t36_35 ⟨_, rfl⟩ rfl (fun ls hl => ?_)
    refine ms_load hC hl t36_37 ⟨_, rfl⟩ (List.mem_of_getElem? (i := 0) rfl) ?_
    refine ms_iff hC t36_39 (show ¬ (((nI 1) : Int32) = 0) by decide +kernel) ?_
    refine ms_load hC hl t36_42 ⟨_, rfl⟩ (List.mem_of_getElem? (i := 2) rfl) ?_
    refine ms_push (V := .int (nI 1)) hC (okc_iconst dX9_toNearest_43 (by decide +kernel)) ?_
    refine ms_bin (r := ((FP.d2i x) + (nI 1))) hC t36_44 rfl ?_
    refine ms_goto hC t36_45 ?_
    exact t36_49 p l e _ s m args below meth c s.heap [] 0 0 _ _ 0 0 _ _ ls hC ⟨_, rfl⟩ (fun t ht _ => ⟨congrArg (fun z => Outcome.returned (some (Value.int z))) (Eq.symm (md_tn1 c1)), ht⟩) (fun q h => absurd h List.not_mem_nil) (Nat.le_refl _) (Nat.le_refl _)
  · have e1 := c1
    have c1 : ¬ e_condR 4 (Op.cmpValue (FP.dcmp (md_r x) md_half) .l) 0 := c1
    by_cases c2 : Op.cmpValue (FP.dcmp (md_r x) md_half) .l = 0
    · have e2 := c2
      have c2 : ¬ e_condR 1 (Op.cmpValue (FP.dcmp (md_r x) md_half) .l) 0 := fun q => q c2
      by_cases c3 : FP.d2i x - FP.d2i x / nI 2 * nI 2 = 0
      · have c3 : e_condR 0 (FP.d2i x - FP.d2i x / nI 2 * nI 2) 0 := c3
        refine ms_load hC hl t36_0 ⟨_, rfl⟩ (List.mem_of_getElem? (i := 0) rfl) ?_
        refine lv_d2i hC.1 hC.2.1 dX9_toNearest_1 ?_
        refine ms_st1 (lv' := [(2, .int (FP.d2i x)), (0, .double x)]) hC hl t36_2 ⟨_, rfl⟩ rfl (fun ls hl => ?_)
        refine ms_load hC hl t36_3 ⟨_, rfl⟩ (List.mem_of_getElem? (i := 1) rfl) ?_
        refine ms_load hC hl t36_4 ⟨_, rfl⟩ (List.mem_of_getElem? (i := 0) rfl) ?_
        refine lv_i2d hC.1 hC.2.1 dX9_toNearest_5 ?_
        refine lv_dsub hC.1 hC.2.1 dX9_toNearest_6 hn ?_
        refine ms_st2 (lv' := [(3, .double (FP.dsub x (FP.i2d (FP.d2i x)))), (2, .int (FP.d2i x)), (0, .double x)]) hC hl t36_7 ⟨_, rfl⟩ rfl (fun ls hl => ?_)
        refine ms_load hC hl t36_8 ⟨_, rfl⟩ (List.mem_of_getElem? (i := 0) rfl) ?_
        refine ms_push (V := .double md_half) hC t36_9 ?_
        refine lv_dcmp hC.1 hC.2.1 dX9_toNearest_12 ?_
        refine ms_iff hC t36_13 c1 ?_
        refine ms_load hC hl t36_16 ⟨_, rfl⟩ (List.mem_of_getElem? (i := 0) rfl) ?_
        refine ms_push (V := .double md_half) hC t36_17 ?_
        refine lv_dcmp hC.1 hC.2.1 dX9_toNearest_20 ?_
        refine ms_iff hC t36_21 c2 ?_
        refine ms_load hC hl t36_24 ⟨_, rfl⟩ (List.mem_of_getElem? (i := 1) rfl) ?_
        refine ms_push (V := .int (nI 2)) hC (okc_iconst dX9_toNearest_25 (by decide +kernel)) ?_
        refine ms_bin (r := ((FP.d2i x) - (FP.d2i x) / (nI 2) * (nI 2))) hC t36_26 ⟨by decide, rfl⟩ ?_
        refine ms_ift hC t36_27 c3 ?_
        refine ms_push (V := .int (nI 0)) hC (okc_iconst dX9_toNearest_34 (by decide +kernel)) ?_
        refine ms_st1 (lv' := [(5, .int (nI 0)), (3, .double (FP.dsub x (FP.i2d (FP.d2i x)))), (2, .int (FP.d2i x)), (0, .double x)]) hC hl t36_35 ⟨_, rfl⟩ rfl (fun ls hl => ?_)
        refine ms_load hC hl t36_37 ⟨_, rfl⟩ (List.mem_of_getElem? (i := 0) rfl) ?_
        refine ms_ift hC t36_39 (show ((nI 0) : Int32) = 0 by decide +kernel) ?_
        refine ms_load hC hl t36_48 ⟨_, rfl⟩ (List.mem_of_getElem? (i := 2) rfl) ?_
        exact t36_49 p l e _ s m args below meth c s.heap [] 0 0 _ _ 0 0 _ _ ls hC ⟨_, rfl⟩ (fun t ht _ => ⟨congrArg (fun z => Outcome.returned (some (Value.int z))) (Eq.symm (md_tn2 e1 e2 c3)), ht⟩) (fun q h => absurd h List.not_mem_nil) (Nat.le_refl _) (Nat.le_refl _)
      · have e3 := c3
        have c3 : ¬ e_condR 0 (FP.d2i x - FP.d2i x / nI 2 * nI 2) 0 := c3
        refine ms_load hC hl t36_0 ⟨_, rfl⟩ (List.mem_of_getElem? (i := 0) rfl) ?_
        refine lv_d2i hC.1 hC.2.1 dX9_toNearest_1 ?_
        refine ms_st1 (lv' := [(2, .int (FP.d2i x)), (0, .double x)]) hC hl t36_2 ⟨_, rfl⟩ rfl (fun ls hl => ?_)
        refine ms_load hC hl t36_3 ⟨_, rfl⟩ (List.mem_of_getElem? (i := 1) rfl) ?_
        refine ms_load hC hl t36_4 ⟨_, rfl⟩ (List.mem_of_getElem? (i := 0) rfl) ?_
        refine lv_i2d hC.1 hC.2.1 dX9_toNearest_5 ?_
        refine lv_dsub hC.1 hC.2.1 dX9_toNearest_6 hn ?_
        refine ms_st2 (lv' := [(3, .double (FP.dsub x (FP.i2d (FP.d2i x)))), (2, .int (FP.d2i x)), (0, .double x)]) hC hl t36_7 ⟨_, rfl⟩ rfl (fun ls hl => ?_)
        refine ms_load hC hl t36_8 ⟨_, rfl⟩ (List.mem_of_getElem? (i := 0) rfl) ?_
        refine ms_push (V := .double md_half) hC t36_9 ?_
        refine lv_dcmp hC.1 hC.2.1 dX9_toNearest_12 ?_
        refine ms_iff hC t36_13 c1 ?_
        refine ms_load hC hl t36_16 ⟨_, rfl⟩ (List.mem_of_getElem? (i := 0) rfl) ?_
        refine ms_push (V := .double md_half) hC t36_17 ?_
        refine lv_dcmp hC.1 hC.2.1 dX9_toNearest_20 ?_
        refine ms_iff hC t36_21 c2 ?_
        refine ms_load hC hl t36_24 ⟨_, rfl⟩ (List.mem_of_getElem? (i := 1) rfl) ?_
        refine ms_push (V := .int (nI 2)) hC (okc_iconst dX9_toNearest_25 (by decide +kernel)) ?_
        refine ms_bin (r := ((FP.d2i x) - (FP.d2i x) / (nI 2) * (nI 2))) hC t36_26 ⟨by decide, rfl⟩ ?_
        refine ms_iff hC t36_27 c3 ?_
        refine ms_push (V := .int (nI 1)) hC (okc_iconst dX9_toNearest_30 (by decide +kernel)) ?_
        refine ms_goto hC t36_31 ?_
        refine ms_st1 (lv' := [(5, .int (nI 1)), (3, .double (FP.dsub x (FP.i2d (FP.d2i x)))), (2, .int (FP.d2i x)), (0, .double x)]) hC hl t36_35 ⟨_, rfl⟩ rfl (fun ls hl => ?_)
        refine ms_load hC hl t36_37 ⟨_, rfl⟩ (List.mem_of_getElem? (i := 0) rfl) ?_
        refine ms_iff hC t36_39 (show ¬ (((nI 1) : Int32) = 0) by decide +kernel) ?_
        refine ms_load hC hl t36_42 ⟨_, rfl⟩ (List.mem_of_getElem? (i := 2) rfl) ?_
        refine ms_push (V := .int (nI 1)) hC (okc_iconst dX9_toNearest_43 (by decide +kernel)) ?_
        refine ms_bin (r := ((FP.d2i x) + (nI 1))) hC t36_44 rfl ?_
        refine ms_goto hC t36_45 ?_
        exact t36_49 p l e _ s m args below meth c s.heap [] 0 0 _ _ 0 0 _ _ ls hC ⟨_, rfl⟩ (fun t ht _ => ⟨congrArg (fun z => Outcome.returned (some (Value.int z))) (Eq.symm (md_tn3 e1 e2 e3)), ht⟩) (fun q h => absurd h List.not_mem_nil) (Nat.le_refl _) (Nat.le_refl _)
    · have e2 := c2
      have c2 : e_condR 1 (Op.cmpValue (FP.dcmp (md_r x) md_half) .l) 0 := c2
      refine ms_load hC hl t36_0 ⟨_, rfl⟩ (List.mem_of_getElem? (i := 0) rfl) ?_
      refine lv_d2i hC.1 hC.2.1 dX9_toNearest_1 ?_
      refine ms_st1 (lv' := [(2, .int (FP.d2i x)), (0, .double x)]) hC hl t36_2 ⟨_, rfl⟩ rfl (fun ls hl => ?_)
      refine ms_load hC hl t36_3 ⟨_, rfl⟩ (List.mem_of_getElem? (i := 1) rfl) ?_
      refine ms_load hC hl t36_4 ⟨_, rfl⟩ (List.mem_of_getElem? (i := 0) rfl) ?_
      refine lv_i2d hC.1 hC.2.1 dX9_toNearest_5 ?_
      refine lv_dsub hC.1 hC.2.1 dX9_toNearest_6 hn ?_
      refine ms_st2 (lv' := [(3, .double (FP.dsub x (FP.i2d (FP.d2i x)))), (2, .int (FP.d2i x)), (0, .double x)]) hC hl t36_7 ⟨_, rfl⟩ rfl (fun ls hl => ?_)
      refine ms_load hC hl t36_8 ⟨_, rfl⟩ (List.mem_of_getElem? (i := 0) rfl) ?_
      refine ms_push (V := .double md_half) hC t36_9 ?_
      refine lv_dcmp hC.1 hC.2.1 dX9_toNearest_12 ?_
      refine ms_iff hC t36_13 c1 ?_
      refine ms_load hC hl t36_16 ⟨_, rfl⟩ (List.mem_of_getElem? (i := 0) rfl) ?_
      refine ms_push (V := .double md_half) hC t36_17 ?_
      refine lv_dcmp hC.1 hC.2.1 dX9_toNearest_20 ?_
      refine ms_ift hC t36_21 c2 ?_
      refine ms_push (V := .int (nI 0)) hC (okc_iconst dX9_toNearest_34 (by decide +kernel)) ?_
      refine ms_st1 (lv' := [(5, .int (nI 0)), (3, .double (FP.dsub x (FP.i2d (FP.d2i x)))), (2, .int (FP.d2i x)), (0, .double x)]) hC hl t36_35 ⟨_, rfl⟩ rfl (fun ls hl => ?_)
      refine ms_load hC hl t36_37 ⟨_, rfl⟩ (List.mem_of_getElem? (i := 0) rfl) ?_
      refine ms_ift hC t36_39 (show ((nI 0) : Int32) = 0 by decide +kernel) ?_
      refine ms_load hC hl t36_48 ⟨_, rfl⟩ (List.mem_of_getElem? (i := 2) rfl) ?_
      exact t36_49 p l e _ s m args below meth c s.heap [] 0 0 _ _ 0 0 _ _ ls hC ⟨_, rfl⟩ (fun t ht _ => ⟨congrArg (fun z => Outcome.returned (some (Value.int z))) (Eq.symm (md_tn4 e1 e2)), ht⟩) (fun q h => absurd h List.not_mem_nil) (Nat.le_refl _) (Nat.le_refl _)
def mdW (X : eX) (cA : Nat → ClassId) (Dg : va_G) (ρ : Nat → Nat) (ws : va_W) (H : Heap) (a q0 a1 q1 a2 q2 : Nat) (v3 : Value) (l1 l2 : List eV) : Prop := va_P Dg vwCl ws H ∧ ws[q0]? = some (a, .inr (8, [.ref a1, .ref a2, v3, .int (nI 1)])) ∧ ws[q1]? = some (a1, .inl (cA 0, c_a X ρ 0 ((4, 1) :: l1))) ∧ ws[q2]? = some (a2, .inl (cA 0, c_a X ρ 0 ((4, 2) :: l2)))
def mdB (X : eX) (cA : Nat → ClassId) (Dg : va_G) (ρ : Nat → Nat) (ws : va_W) (H : Heap) (a q0 a1 q1 a2 q2 : Nat) (v3 : Value) (l1 l2 : List eV) (U : State) : Prop := U.heap = H ∧ va_K Dg vwCl (TYs cA) U ∧ mdW X cA Dg ρ ws H a q0 a1 q1 a2 q2 v3 l1 l2
theorem mdB_blind {X : eX} {cA : Nat → ClassId} {Dg : va_G} {ρ : Nat → Nat} {ws : va_W} {H : Heap} {a q0 a1 q1 a2 q2 : Nat} {v3 : Value} {l1 l2 : List eV} : FrameBlind (fun _ U => mdB X cA Dg ρ ws H a q0 a1 q1 a2 q2 v3 l1 l2 U) := fun z U g mk ⟨q0, q1, q2⟩ => ⟨q0, va_K.moved (u := U) (U := U.calling g mk z) (Vm.Alike.refl U.vm) q1, q2⟩
theorem tt_blind : FrameBlind (fun _ _ => True) := fun _ _ _ _ _ => trivial
theorem md_mbd (l : Launch) {X : eX} {cA : Nat → ClassId} {Dg : va_G} {ρ : Nat → Nat} {ws : va_W} {H : Heap} {a q0 a1 q1 a2 q2 : Nat} {v3 : Value} {l1 l2 : List eV} {j : Int32} (hpos : ¬ md_sq j (X.2 1) ≤ 0) (n1 : vf_n64 (FP.ddiv FP.dconst1 (FP.i2d (md_sq j (X.2 1))))) (n2 : vf_n64 (FP.dmul (FP.ddiv FP.dconst1 (FP.i2d (md_sq j (X.2 1)))) (FP.i2d (X.2 2)))) (n3 : vf_n64 (FP.dadd FP.dconst0 (FP.dmul (FP.ddiv FP.dconst1 (FP.i2d (md_sq j (X.2 1)))) (FP.i2d (X.2 2))))) (n4 : vf_n64 (FP.dadd FP.dconst0 (FP.ddiv FP.dconst1 (FP.i2d (md_sq j (X.2 1)))))) (n5 : ¬ Op.cmpValue (FP.dcmp (FP.dadd FP.dconst0 (FP.ddiv FP.dconst1 (FP.i2d (md_sq j (X.2 1))))) FP.dconst0) .l ≤ 0) (n6 : vf_n64 (FP.ddiv (FP.dadd FP.dconst0 (FP.dmul (FP.ddiv FP.dconst1 (FP.i2d (md_sq j (X.2 1)))) (FP.i2d (X.2 2)))) (FP.dadd FP.dconst0 (FP.ddiv FP.dconst1 (FP.i2d (md_sq j (X.2 1))))))) : eMet l mD64 { frames := 1, cells := 0, slots := 0, locals := 23 } (mdPc [.ref a, .int j] (mdB X cA Dg ρ ws H a q0 a1 q1 a2 q2 v3 l1 l2)) (mdQ (.double (FP.ddiv (FP.dadd FP.dconst0 (FP.dmul (FP.ddiv FP.dconst1 (FP.i2d (md_sq j (X.2 1)))) (FP.i2d (X.2 2)))) (FP.dadd FP.dconst0 (FP.ddiv FP.dconst1 (FP.i2d (md_sq j (X.2 1)))))))) mdX 0 0 (fun _ => False) := by
  refine md_met rfl (by decide +kernel) (show (2 : Nat) ≤ 10 by decide) (fun p e s m args below meth c ls hC hN hB hl => ?_)
  obtain ⟨rfl, hK, hP, h0, h1, h2⟩ := hB
  refine lv_dconst0 hC.1 hC.2.1 dX3_meanByDistance_0 ?_
  refine ms_st2 (lv' := [(2, .double FP.dconst0), (0, .ref a), (1, .int j)]) hC hl t64_1 ⟨_, rfl⟩ rfl (fun ls hl => ?_)
  refine lv_dconst0 hC.1 hC.2.1 dX3_meanByDistance_2 ?_
  refine ms_st2 (lv' := [(4, .double FP.dconst0), (2, .double FP.dconst0), (0, .ref a), (1, .int j)]) hC hl t64_3 ⟨_, rfl⟩ rfl (fun ls hl => ?_)
  refine ms_push (V := .int (nI 0)) hC (okc_iconst dX3_meanByDistance_5 (by decide +kernel)) ?_
  refine ms_st1 (lv' := [(6, .int (nI 0)), (4, .double FP.dconst0), (2, .double FP.dconst0), (0, .ref a), (1, .int j)]) hC hl t64_6 ⟨_, rfl⟩ rfl (fun ls hl => ?_)
  refine ms_load hC hl t64_8 ⟨_, rfl⟩ (List.mem_of_getElem? (i := 0) rfl) ?_
  refine ms_load hC hl t64_10 ⟨_, rfl⟩ (List.mem_of_getElem? (i := 3) rfl) ?_
  refine ms_get (X := X) hC hK hP t64_11 h0 rfl ?_
  refine ms_cf hC t64_14 (show ¬ ((nI 1) ≤ (nI 0)) by decide +kernel) ?_
  refine ms_load hC hl t64_17 ⟨_, rfl⟩ (List.mem_of_getElem? (i := 0) rfl) ?_
  refine ms_push (V := .int (nI 40)) hC (okc_bipush dX3_meanByDistance_19 (by decide +kernel)) ?_
  refine ms_cf hC t64_21 (show ¬ ((nI 40) ≤ (nI 0)) by decide +kernel) ?_
  refine ms_load hC hl t64_24 ⟨_, rfl⟩ (List.mem_of_getElem? (i := 4) rfl) ?_
  refine ms_load hC hl t64_25 ⟨_, rfl⟩ (List.mem_of_getElem? (i := 3) rfl) ?_
  refine ms_get (X := X) hC hK hP t64_26 h0 rfl ?_
  refine ms_load hC hl t64_29 ⟨_, rfl⟩ (List.mem_of_getElem? (i := 0) rfl) ?_
  refine ms_ald hC hK hP t64_31 h1 ?_
  refine md_call (As := [.int j, .int (X.2 1)]) (rest := []) (B := fun _ => True) hC hK hN hl.1 t64_32.1 (md_squ l j (X.2 1)) rfl rfl (by decide) (by decide) (Nat.zero_le _) (Nat.zero_le _) (md_blind tt_blind) rfl (fun _ _ _ => trivial) trivial (by decide) ?_
  refine ms_st1 (lv' := [(7, .int (md_sq j (X.2 1))), (6, .int (nI 0)), (4, .double FP.dconst0), (2, .double FP.dconst0), (0, .ref a), (1, .int j)]) hC hl t64_35 ⟨_, rfl⟩ rfl (fun ls hl => ?_)
  refine ms_load hC hl t64_37 ⟨_, rfl⟩ (List.mem_of_getElem? (i := 0) rfl) ?_
  refine ms_iff hC t64_39 hpos ?_
  refine lv_dconst1 hC.1 hC.2.1 dX3_meanByDistance_42 ?_
  refine ms_load hC hl t64_43 ⟨_, rfl⟩ (List.mem_of_getElem? (i := 0) rfl) ?_
  refine lv_i2d hC.1 hC.2.1 dX3_meanByDistance_45 ?_
  refine lv_ddiv hC.1 hC.2.1 dX3_meanByDistance_46 n1 ?_
  refine ms_st2 (lv' := [(8, .double (FP.ddiv FP.dconst1 (FP.i2d (md_sq j (X.2 1))))), (7, .int (md_sq j (X.2 1))), (6, .int (nI 0)), (4, .double FP.dconst0), (2, .double FP.dconst0), (0, .ref a), (1, .int j)]) hC hl t64_47 ⟨_, rfl⟩ rfl (fun ls hl => ?_)
  refine ms_load hC hl t64_49 ⟨_, rfl⟩ (List.mem_of_getElem? (i := 4) rfl) ?_
  refine ms_load hC hl t64_50 ⟨_, rfl⟩ (List.mem_of_getElem? (i := 0) rfl) ?_
  refine ms_load hC hl t64_52 ⟨_, rfl⟩ (List.mem_of_getElem? (i := 5) rfl) ?_
  refine ms_get (X := X) hC hK hP t64_53 h0 rfl ?_
  refine ms_load hC hl t64_56 ⟨_, rfl⟩ (List.mem_of_getElem? (i := 2) rfl) ?_
  refine ms_ald hC hK hP t64_58 h2 ?_
  refine lv_i2d hC.1 hC.2.1 dX3_meanByDistance_59 ?_
  refine lv_dmul hC.1 hC.2.1 dX3_meanByDistance_60 n2 ?_
  refine lv_dadd hC.1 hC.2.1 dX3_meanByDistance_61 n3 ?_
  refine ms_st2 (lv' := [(2, .double (FP.dadd FP.dconst0 (FP.dmul (FP.ddiv FP.dconst1 (FP.i2d (md_sq j (X.2 1)))) (FP.i2d (X.2 2))))), (8, .double (FP.ddiv FP.dconst1 (FP.i2d (md_sq j (X.2 1))))), (7, .int (md_sq j (X.2 1))), (6, .int (nI 0)), (4, .double FP.dconst0), (0, .ref a), (1, .int j)]) hC hl t64_62 ⟨_, rfl⟩ rfl (fun ls hl => ?_)
  refine ms_load hC hl t64_63 ⟨_, rfl⟩ (List.mem_of_getElem? (i := 4) rfl) ?_
  refine ms_load hC hl t64_65 ⟨_, rfl⟩ (List.mem_of_getElem? (i := 1) rfl) ?_
  refine lv_dadd hC.1 hC.2.1 dX3_meanByDistance_67 n4 ?_
  refine ms_st2 (lv' := [(4, .double (FP.dadd FP.dconst0 (FP.ddiv FP.dconst1 (FP.i2d (md_sq j (X.2 1)))))), (2, .double (FP.dadd FP.dconst0 (FP.dmul (FP.ddiv FP.dconst1 (FP.i2d (md_sq j (X.2 1)))) (FP.i2d (X.2 2))))), (8, .double (FP.ddiv FP.dconst1 (FP.i2d (md_sq j (X.2 1))))), (7, .int (md_sq j (X.2 1))), (6, .int (nI 0)), (0, .ref a), (1, .int j)]) hC hl t64_68 ⟨_, rfl⟩ rfl (fun ls hl => ?_)
  refine ms_inc (lv' := [(6, .int (nI 1)), (4, .double (FP.dadd FP.dconst0 (FP.ddiv FP.dconst1 (FP.i2d (md_sq j (X.2 1)))))), (2, .double (FP.dadd FP.dconst0 (FP.dmul (FP.ddiv FP.dconst1 (FP.i2d (md_sq j (X.2 1)))) (FP.i2d (X.2 2))))), (8, .double (FP.ddiv FP.dconst1 (FP.i2d (md_sq j (X.2 1))))), (7, .int (md_sq j (X.2 1))), (0, .ref a), (1, .int j)]) (r := nI 1) hC hl t64_70 (List.mem_of_getElem? (i := 4) rfl) (by decide) rfl (fun ls hl => ?_)
  refine ms_goto hC t64_73 ?_
  refine ms_load hC hl t64_8 ⟨_, rfl⟩ (List.mem_of_getElem? (i := 0) rfl) ?_
  refine ms_load hC hl t64_10 ⟨_, rfl⟩ (List.mem_of_getElem? (i := 5) rfl) ?_
  refine ms_get (X := X) hC hK hP t64_11 h0 rfl ?_
  refine ms_ct hC t64_14 (show (nI 1) ≤ (nI 1) by decide +kernel) ?_
  refine ms_load hC hl t64_76 ⟨_, rfl⟩ (List.mem_of_getElem? (i := 1) rfl) ?_
  refine lv_dconst0 hC.1 hC.2.1 dX3_meanByDistance_78 ?_
  refine lv_dcmp hC.1 hC.2.1 dX3_meanByDistance_79 ?_
  refine ms_iff hC t64_80 n5 ?_
  refine ms_load hC hl t64_83 ⟨_, rfl⟩ (List.mem_of_getElem? (i := 2) rfl) ?_
  refine ms_load hC hl t64_84 ⟨_, rfl⟩ (List.mem_of_getElem? (i := 1) rfl) ?_
  refine lv_ddiv hC.1 hC.2.1 dX3_meanByDistance_86 n6 ?_
  refine ms_goto hC t64_87 ?_
  exact t64_91 p l e _ s m args below meth c s.heap [] 0 0 _ _ 0 0 _ _ ls hC ⟨_, rfl⟩ (fun t ht _ => ⟨rfl, ht⟩) (fun q h => absurd h List.not_mem_nil) (Nat.le_refl _) (Nat.le_refl _)
theorem md_mf1 (l : Launch) {X : eX} {cA : Nat → ClassId} {Dg : va_G} {ρ : Nat → Nat} {ws : va_W} {H : Heap} {a q0 a1 q1 a2 q2 : Nat} {v3 : Value} {l1 l2 : List eV} {j : Nat} (hb : X.2 1 = nI j) (n1 : vf_n64 (FP.dadd FP.dconst0 (FP.i2d (X.2 2)))) (n2 : vf_n64 (FP.ddiv (FP.dadd FP.dconst0 (FP.i2d (X.2 2))) (FP.i2d (nI 1)))) : eMet l mD65 { frames := 2, cells := 0, slots := 0, locals := 52 } (mdPc [.ref a, .int (nI j)] (mdB X cA Dg ρ ws H a q0 a1 q1 a2 q2 v3 l1 l2)) (mdQ (.double (FP.ddiv (FP.dadd FP.dconst0 (FP.i2d (X.2 2))) (FP.i2d (nI 1))))) mdX 0 0 (fun _ => False) := by
  refine md_met rfl (by decide +kernel) (show (2 : Nat) ≤ 6 by decide) (fun p e s m args below meth c ls hC hN hB hl => ?_)
  obtain ⟨rfl, hK, hP, h0, h1, h2⟩ := hB
  refine lv_dconst0 hC.1 hC.2.1 dX3_meanFor_0 ?_
  refine ms_st2 (lv' := [(2, .double FP.dconst0), (0, .ref a), (1, .int (nI j))]) hC hl t65_1 ⟨_, rfl⟩ rfl (fun ls hl => ?_)
  refine ms_push (V := .int (nI 0)) hC (okc_iconst dX3_meanFor_2 (by decide +kernel)) ?_
  refine ms_st1 (lv' := [(4, .int (nI 0)), (2, .double FP.dconst0), (0, .ref a), (1, .int (nI j))]) hC hl t65_3 ⟨_, rfl⟩ rfl (fun ls hl => ?_)
  refine ms_push (V := .int (nI 0)) hC (okc_iconst dX3_meanFor_5 (by decide +kernel)) ?_
  refine ms_st1 (lv' := [(5, .int (nI 0)), (4, .int (nI 0)), (2, .double FP.dconst0), (0, .ref a), (1, .int (nI j))]) hC hl t65_6 ⟨_, rfl⟩ rfl (fun ls hl => ?_)
  refine ms_load hC hl t65_8 ⟨_, rfl⟩ (List.mem_of_getElem? (i := 0) rfl) ?_
  refine ms_load hC hl t65_10 ⟨_, rfl⟩ (List.mem_of_getElem? (i := 3) rfl) ?_
  refine ms_get (X := X) hC hK hP t65_11 h0 rfl ?_
  refine ms_cf hC t65_14 (show ¬ ((nI 1) ≤ (nI 0)) by decide +kernel) ?_
  refine ms_load hC hl t65_17 ⟨_, rfl⟩ (List.mem_of_getElem? (i := 0) rfl) ?_
  refine ms_push (V := .int (nI 40)) hC (okc_bipush dX3_meanFor_19 (by decide +kernel)) ?_
  refine ms_cf hC t65_21 (show ¬ ((nI 40) ≤ (nI 0)) by decide +kernel) ?_
  refine ms_load hC hl t65_24 ⟨_, rfl⟩ (List.mem_of_getElem? (i := 3) rfl) ?_
  refine ms_get (X := X) hC hK hP t65_25 h0 rfl ?_
  refine ms_load hC hl t65_28 ⟨_, rfl⟩ (List.mem_of_getElem? (i := 0) rfl) ?_
  refine ms_ald hC hK hP t65_30 h1 ?_
  refine ms_load hC hl t65_31 ⟨_, rfl⟩ (List.mem_of_getElem? (i := 4) rfl) ?_
  refine ms_cf hC t65_32 (fun q => q hb) ?_
  refine ms_load hC hl t65_35 ⟨_, rfl⟩ (List.mem_of_getElem? (i := 2) rfl) ?_
  refine ms_load hC hl t65_36 ⟨_, rfl⟩ (List.mem_of_getElem? (i := 3) rfl) ?_
  refine ms_get (X := X) hC hK hP t65_37 h0 rfl ?_
  refine ms_load hC hl t65_40 ⟨_, rfl⟩ (List.mem_of_getElem? (i := 0) rfl) ?_
  refine ms_ald hC hK hP t65_42 h2 ?_
  refine lv_i2d hC.1 hC.2.1 dX3_meanFor_43 ?_
  refine lv_dadd hC.1 hC.2.1 dX3_meanFor_44 n1 ?_
  refine ms_st2 (lv' := [(2, .double (FP.dadd FP.dconst0 (FP.i2d (X.2 2)))), (5, .int (nI 0)), (4, .int (nI 0)), (0, .ref a), (1, .int (nI j))]) hC hl t65_45 ⟨_, rfl⟩ rfl (fun ls hl => ?_)
  refine ms_inc (lv' := [(4, .int (nI 1)), (2, .double (FP.dadd FP.dconst0 (FP.i2d (X.2 2)))), (5, .int (nI 0)), (0, .ref a), (1, .int (nI j))]) (r := nI 1) hC hl t65_46 (List.mem_of_getElem? (i := 2) rfl) (by decide) rfl (fun ls hl => ?_)
  refine ms_inc (lv' := [(5, .int (nI 1)), (4, .int (nI 1)), (2, .double (FP.dadd FP.dconst0 (FP.i2d (X.2 2)))), (0, .ref a), (1, .int (nI j))]) (r := nI 1) hC hl t65_49 (List.mem_of_getElem? (i := 2) rfl) (by decide) rfl (fun ls hl => ?_)
  refine ms_goto hC t65_52 ?_
  refine ms_load hC hl t65_8 ⟨_, rfl⟩ (List.mem_of_getElem? (i := 0) rfl) ?_
  refine ms_load hC hl t65_10 ⟨_, rfl⟩ (List.mem_of_getElem? (i := 3) rfl) ?_
  refine ms_get (X := X) hC hK hP t65_11 h0 rfl ?_
  refine ms_ct hC t65_14 (show (nI 1) ≤ (nI 1) by decide +kernel) ?_
  refine ms_load hC hl t65_55 ⟨_, rfl⟩ (List.mem_of_getElem? (i := 1) rfl) ?_
  refine ms_iff hC t65_57 (show ¬ (((nI 1) : Int32) ≤ 0) by decide +kernel) ?_
  refine ms_load hC hl t65_60 ⟨_, rfl⟩ (List.mem_of_getElem? (i := 2) rfl) ?_
  refine ms_load hC hl t65_61 ⟨_, rfl⟩ (List.mem_of_getElem? (i := 1) rfl) ?_
  refine lv_i2d hC.1 hC.2.1 dX3_meanFor_63 ?_
  refine lv_ddiv hC.1 hC.2.1 dX3_meanFor_64 n2 ?_
  refine ms_goto hC t65_65 ?_
  exact t65_73 p l e _ s m args below meth c s.heap [] 0 0 _ _ 0 0 _ _ ls hC ⟨_, rfl⟩ (fun t ht _ => ⟨rfl, ht⟩) (fun q h => absurd h List.not_mem_nil) (Nat.le_refl _) (Nat.le_refl _)
theorem md_mf2 (l : Launch) {X : eX} {cA : Nat → ClassId} {Dg : va_G} {ρ : Nat → Nat} {ws : va_W} {H : Heap} {a q0 a1 q1 a2 q2 : Nat} {v3 : Value} {l1 l2 : List eV} {j : Nat} {v : UInt64} (hb : ¬ X.2 1 = nI j) (hM : eMet l mD64 { frames := 1, cells := 0, slots := 0, locals := 23 } (mdPc [.ref a, .int (nI j)] (mdB X cA Dg ρ ws H a q0 a1 q1 a2 q2 v3 l1 l2)) (mdQ (.double v)) mdX 0 0 (fun _ => False)) : eMet l mD65 { frames := 2, cells := 0, slots := 0, locals := 52 } (mdPc [.ref a, .int (nI j)] (mdB X cA Dg ρ ws H a q0 a1 q1 a2 q2 v3 l1 l2)) (mdQ (.double v)) mdX 0 0 (fun _ => False) := by
  refine md_met rfl (by decide +kernel) (show (2 : Nat) ≤ 6 by decide) (fun p e s m args below meth c ls hC hN hB hl => ?_)
  obtain ⟨rfl, hK, hP, h0, h1, h2⟩ := hB
  have hrv : eRecv 2 mD64 s s.heap [.ref a, .int (nI j)] := ⟨a, _, rfl, va_recv hK hP (show vwCl[8]? = some _ from rfl) h0⟩
  refine lv_dconst0 hC.1 hC.2.1 dX3_meanFor_0 ?_
  refine ms_st2 (lv' := [(2, .double FP.dconst0), (0, .ref a), (1, .int (nI j))]) hC hl t65_1 ⟨_, rfl⟩ rfl (fun ls hl => ?_)
  refine ms_push (V := .int (nI 0)) hC (okc_iconst dX3_meanFor_2 (by decide +kernel)) ?_
  refine ms_st1 (lv' := [(4, .int (nI 0)), (2, .double FP.dconst0), (0, .ref a), (1, .int (nI j))]) hC hl t65_3 ⟨_, rfl⟩ rfl (fun ls hl => ?_)
  refine ms_push (V := .int (nI 0)) hC (okc_iconst dX3_meanFor_5 (by decide +kernel)) ?_
  refine ms_st1 (lv' := [(5, .int (nI 0)), (4, .int (nI 0)), (2, .double FP.dconst0), (0, .ref a), (1, .int (nI j))]) hC hl t65_6 ⟨_, rfl⟩ rfl (fun ls hl => ?_)
  refine ms_load hC hl t65_8 ⟨_, rfl⟩ (List.mem_of_getElem? (i := 0) rfl) ?_
  refine ms_load hC hl t65_10 ⟨_, rfl⟩ (List.mem_of_getElem? (i := 3) rfl) ?_
  refine ms_get (X := X) hC hK hP t65_11 h0 rfl ?_
  refine ms_cf hC t65_14 (show ¬ ((nI 1) ≤ (nI 0)) by decide +kernel) ?_
  refine ms_load hC hl t65_17 ⟨_, rfl⟩ (List.mem_of_getElem? (i := 0) rfl) ?_
  refine ms_push (V := .int (nI 40)) hC (okc_bipush dX3_meanFor_19 (by decide +kernel)) ?_
  refine ms_cf hC t65_21 (show ¬ ((nI 40) ≤ (nI 0)) by decide +kernel) ?_
  refine ms_load hC hl t65_24 ⟨_, rfl⟩ (List.mem_of_getElem? (i := 3) rfl) ?_
  refine ms_get (X := X) hC hK hP t65_25 h0 rfl ?_
  refine ms_load hC hl t65_28 ⟨_, rfl⟩ (List.mem_of_getElem? (i := 0) rfl) ?_
  refine ms_ald hC hK hP t65_30 h1 ?_
  refine ms_load hC hl t65_31 ⟨_, rfl⟩ (List.mem_of_getElem? (i := 4) rfl) ?_
  refine ms_ct hC t65_32 hb ?_
  refine ms_inc (lv' := [(5, .int (nI 1)), (4, .int (nI 0)), (2, .double FP.dconst0), (0, .ref a), (1, .int (nI j))]) (r := nI 1) hC hl t65_49 (List.mem_of_getElem? (i := 0) rfl) (by decide) rfl (fun ls hl => ?_)
  refine ms_goto hC t65_52 ?_
  refine ms_load hC hl t65_8 ⟨_, rfl⟩ (List.mem_of_getElem? (i := 0) rfl) ?_
  refine ms_load hC hl t65_10 ⟨_, rfl⟩ (List.mem_of_getElem? (i := 3) rfl) ?_
  refine ms_get (X := X) hC hK hP t65_11 h0 rfl ?_
  refine ms_ct hC t65_14 (show (nI 1) ≤ (nI 1) by decide +kernel) ?_
  refine ms_load hC hl t65_55 ⟨_, rfl⟩ (List.mem_of_getElem? (i := 1) rfl) ?_
  refine ms_ift hC t65_57 (show ((nI 0) : Int32) ≤ 0 by decide +kernel) ?_
  refine ms_load hC hl t65_68 ⟨_, rfl⟩ (List.mem_of_getElem? (i := 3) rfl) ?_
  refine ms_load hC hl t65_69 ⟨_, rfl⟩ (List.mem_of_getElem? (i := 4) rfl) ?_
  refine md_call (As := [.ref a, .int (nI j)]) (rest := []) hC hK hN hl.1 t65_70.1 hM rfl rfl (by decide) (by decide) (Nat.zero_le _) (Nat.zero_le _) (md_blind mdB_blind) rfl (fun U hU hW => ⟨hU, va_K.moved hW.alike hK, hP, h0, h1, h2⟩) hrv (by decide) ?_
  exact t65_73 p l e _ s m args below meth c s.heap [] 0 0 _ _ 0 0 _ _ ls hC ⟨_, rfl⟩ (fun t ht _ => ⟨rfl, ht⟩) (fun q h => absurd h List.not_mem_nil) (Nat.le_refl _) (Nat.le_refl _)
theorem mwc_65 : Cond.code mD65.1 mD65.2.1 mD65.2.2.1 mD65.2.2.2.1 ∈ wG := wg3 98 rfl rfl
theorem mwn_65 : Cond.instanceMethod mD65.1 ∈ wG := wg3 97 rfl rfl
theorem mwv_65 : Cond.selects mD65.1.cls mD65.1 mD65.1 ∈ wG := (wg0 3 rfl rfl)
theorem mwi_65 : Cond.initialized mD65.1.cls ∈ wG := wg1 3 rfl rfl
theorem mwd_65 : eNm mD65.1 1 := ⟨by decide +kernel, by decide +kernel, by decide +kernel⟩
theorem md_c53 : e_ok mD61 53 (11, 2, 65, 2, 56) := And.intro (okCallX.M (okx_virtual (Da := mD65) dX3_addSample_53 rfl mwc_65 (wg3 95 rfl rfl) mwn_65 mwv_65 mwi_65 mwd_65)) (fun _ => okx_virtual (Da := mD65) dX3_addSample_53 rfl mwc_65 (wg3 95 rfl rfl) mwn_65 mwv_65 mwi_65 mwd_65)
theorem md_mf (l : Launch) {X : eX} {cA : Nat → ClassId} {Dg : va_G} {ρ : Nat → Nat} {ws : va_W} {H : Heap} {a q0 a1 q1 a2 q2 : Nat} {v3 : Value} {l1 l2 : List eV} {b g j : Nat} (hb : b < 60) (eb : X.2 1 = nI b) (hg : g < 100) (eg : X.2 2 = nI g) (hj : j < 60) : eMet l mD65 { frames := 2, cells := 0, slots := 0, locals := 52 } (mdPc [.ref a, .int (nI j)] (mdB X cA Dg ρ ws H a q0 a1 q1 a2 q2 v3 l1 l2)) (mdQ (.double (md_v (X.2 1) (X.2 2) (nI j)))) mdX 0 0 (fun _ => False) ∧ vf_n64 (md_r (md_v (X.2 1) (X.2 2) (nI j))) := by
  by_cases h : X.2 1 = nI j
  · have h9 := md_own g hg
    unfold mdB0 at h9
    rw [← eg] at h9
    simp only [Bool.and_eq_true] at h9
    have e9 : md_v (X.2 1) (X.2 2) (nI j) = FP.ddiv (FP.dadd FP.dconst0 (FP.i2d (X.2 2))) (FP.i2d (nI 1)) := if_pos h
    rw [e9]
    exact ⟨md_mf1 l h (mdn_ok h9.1) (mdn_ok h9.2.1), mdn_ok h9.2.2⟩
  · have hne : Nat.beq j b = false := by
      cases hq : Nat.beq j b
      · rfl
      · exact absurd (by rw [eb, beqE hq]) h
    have hin := md_sq_in j hj b hb
    rw [hne, Bool.false_or] at hin
    have hin := of_decide_eq_true hin
    have hsq : md_sq (nI j) (X.2 1) = nI (md_sqn j b) := by rw [eb]; exact md_sq_eq j hj b hb
    have h8 := md_L_pos _ hin
    have h9 := md_far _ hin g hg
    unfold mdB2 at h8
    unfold mdB1 at h9
    rw [← hsq] at h8 h9
    rw [← eg] at h9
    simp only [Bool.and_eq_true] at h8 h9
    obtain ⟨p1, p2, p3, p4⟩ := h8
    obtain ⟨f1, f2, f3, f4⟩ := h9
    have p1 := of_decide_eq_true p1
    have p4 := of_decide_eq_true p4
    have e9 : md_v (X.2 1) (X.2 2) (nI j) = FP.ddiv (FP.dadd FP.dconst0 (FP.dmul (FP.ddiv FP.dconst1 (FP.i2d (md_sq (nI j) (X.2 1)))) (FP.i2d (X.2 2)))) (FP.dadd FP.dconst0 (FP.ddiv FP.dconst1 (FP.i2d (md_sq (nI j) (X.2 1))))) := if_neg h
    rw [e9]
    exact ⟨md_mf2 l h (md_mbd l (fun q => absurd p1 (i32_nlt.mpr q)) (mdn_ok p2) (mdn_ok f1) (mdn_ok f2) (mdn_ok p3) (fun q => absurd p4 (i32_nlt.mpr q)) (mdn_ok f3)), mdn_ok f4⟩
theorem mdl_ok : okMdl mD61 53 59 :=
  fun p l e R s m args below meth c H locs cells slots Q X ρ cA Dg A ws a q0 a1 q1 a2 q2 j v3 l1 l2 ls st hC hK hE hP hS h0 h1 h2 ⟨b, hb, eb⟩ ⟨g, hg, eg⟩ hj hsz hf hw h8 hc hs kk => by
    obtain ⟨hM, hn⟩ := md_mf l (X := X) (cA := cA) (Dg := Dg) (ρ := ρ) (ws := ws) (H := H) (a := a) (q0 := q0) (a1 := a1) (q1 := q1) (a2 := a2) (q2 := q2) (v3 := v3) (l1 := l1) (l2 := l2) hb eb hg eg hj
    refine md_call (As := [.ref a, .int (nI j)]) (rest := st) hC hK hE.1 hsz md_c53.1 hM rfl rfl (by show 2 + 1 ≤ _; omega) (by show 19 + 6 + 52 ≤ _; omega) hc hs (md_blind mdB_blind) rfl (fun U hU hW => ⟨hU, va_K.moved hW.alike hK, hP, h0, h1, h2⟩) ⟨a, _, rfl, va_recv hK hP (show vwCl[8]? = some _ from rfl) h0⟩ h8 ?_
    exact md_call (As := [.double (md_v (X.2 1) (X.2 2) (nI j))]) (rest := st) (B := fun _ => True) hC hK hE.1 hsz t61_56.1 (md_ton l _ hn) rfl rfl (by show 0 + 1 ≤ _; omega) (by show 19 + 6 + 0 ≤ _; omega) hc hs (md_blind tt_blind) rfl (fun _ _ _ => trivial) trivial h8 kk
