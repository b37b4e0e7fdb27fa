/-! the contract of a method that the abstract machine has run -/
def ePc (X : eX) (cA : Nat → ClassId) (Dg : va_G) (ρ : Nat → Nat) (as : List eV) (h : eH) (sz : Nat) : Array Value → State → Prop := va_Pc (as.map (c_v X ρ)) (fun U => U.heap.size = sz ∧ va_P Dg vwCl (c_w X cA ρ 0 h) U.heap ∧ va_K Dg vwCl (TYs cA) U ∧ va_D (fun _ => True) (c_w X cA ρ 0 h) ∧ eE X (va_A (c_w X cA ρ 0 h) sz) U)
def eQc (X : eX) (cA : Nat → ClassId) (Dg : va_G) (ρ : Nat → Nat) (h : eH) (vs : List eV) (h' : eH) (A1 : Nat → Prop) : Array Value → State → Outcome → State → Prop := fun _ st oc t => (∃ ρ' : Nat → Nat, (∀ k, k < h.length → ρ' k = ρ k) ∧ oc = .returned ((vs.map (c_v X ρ')).head?) ∧ va_P Dg vwCl (c_w X cA ρ' 0 h') t.heap ∧ va_D A1 (c_w X cA ρ' 0 h')) ∧ va_F A1 st t
def eXc (X : eX) (cA : Nat → ClassId) (Dg : va_G) (ρ : Nat → Nat) (h : eH) (E : String) (h' : eH) (A1 : Nat → Prop) : String → State → State → Prop := fun E' st t => E' = E ∧ (∃ ρ' : Nat → Nat, (∀ k, k < h.length → ρ' k = ρ k) ∧ va_P Dg vwCl (c_w X cA ρ' 0 h') t.heap ∧ va_D A1 (c_w X cA ρ' 0 h')) ∧ va_F A1 st t
theorem ePc.blind {X : eX} {cA : Nat → ClassId} {Dg : va_G} {ρ : Nat → Nat} {as : List eV} {h : eH} {sz : Nat} : FrameBlind (ePc X cA Dg ρ as h sz) := fun a U g mk ⟨q0, q1, qP, qK, qD, qE⟩ =>
  ⟨q0, q1, qP, va_K.moved (u := U) (U := U.calling g mk a) (Vm.Alike.refl U.vm) qK, qD, qE.moved (U := U.calling g mk a) (State.WarmedH.refl U) (fun _ _ _ => rfl) (fun _ q => q)⟩
def RunOk (l : Launch) (X : eX) (G : eG) (K : List eK) (n : Nat) : Prop := ∀ (y pc : Nat) (ls : eL) (st : List eV) (h : eH) (c s f w : Nat) (r : eR), e_run G K n y pc ls st h c s f w = some r → e_okS h.length st → e_okLs h.length ls → e_okH h.length h →
  ∀ (p : Program) (e : Env) (R : Room) (s0 : State) (m : MethodId) (args : Array Value) (below : List Frame) (meth : Method) (cc : Code) (cA : Nat → ClassId) (Dg : va_G) (A : Nat → Prop) (Q : State → Prop) (ρ : Nat → Nat) (H : Heap) (locs : List Loc),
    eFix p s0 m args meth cc (m_d y) X cA Dg A → r.2.2.2.2.2.1 ≤ R.cells → r.2.2.2.2.2.2.1 ≤ R.slots → r.2.2.2.2.2.2.2.1 ≤ R.frames → r.2.2.2.2.2.2.2.2 ≤ R.locals → eFin (m_d y) p l e R s0 m args below meth cc X cA Dg A Q h.length ρ r →
    eGo (m_d y) p l e R s0 m args below meth cc X cA Dg A Q pc ls st h c s ρ H locs
section MET
variable {l : Launch} {X : eX} {G : eG} {K : List eK}
/-- a body without handlers, of a member that the natives' table has no row for -/
theorem ea_ofW {y : MethodName} {ws ws' : List Cond} {rm : Room} {Pc : Array Value → State → Prop} {Qc : Array Value → State → Outcome → State → Prop} {XC : String → State → State → Prop} {mc ms : Nat} {free : Addr → Prop} {cc : ByteArray} {maxL : Nat} {ret : Option FieldType}
    (hy : plainFor y = true) (hw : ws = Cond.code y cc maxL ret :: ws')
    (body : ∀ p e s m args below meth c s₁, BodyLoose p l y (headSpec ws rm) cc maxL ret e s m args below meth c s₁ → c.maxLocals = maxL → (∀ x ∈ c.exceptionTable.toList, False) → Pc args s →
      W p l e (headSpec ws rm).room s m args below meth c s.heap [] 0 0 (vx_MQ below Qc XC args s mc ms free) (entryFrame m args maxL)) : vx_Met l y ws rm Pc Qc XC mc ms free := by
  refine MetFree.of_bodySF (code := cc) (maxLocals := maxL) (ret := ret) hy ?_ ?_
  · intro args s m h hn
    obtain ⟨meth, c, h1, h2, h3, h4, h5, h6, -, -⟩ := Cond.code_spec hn (atoms_spec (ws := ws) h _ (by rw [hw]; exact List.mem_cons_self))
    exact ⟨meth, c, h1, h2, h3, h4, h5, h6⟩
  · intro p e s m args below meth c s₁ B hml hP _
    have hh0 : s₁.heap = s.heap := by rw [B.state]; rfl
    have ht : ∀ x ∈ c.exceptionTable.toList, False := by
      obtain ⟨meth9, c9, h1, h2, -, -, -, -, h7, -⟩ := Cond.code_spec B.named (atoms_spec (ws := ws) B.pre _ (by rw [hw]; exact List.mem_cons_self))
      cases Option.some.inj (h1.symm.trans B.method)
      cases Option.some.inj (h2.symm.trans (Stand.of_body B).code)
      intro x hx
      rw [Array.isEmpty_iff.mp h7] at hx
      cases hx
    obtain ⟨t, a1, o, b1, b2, b3⟩ := body p e s m args below meth c s₁ B hml ht hP s₁ hh0 (Stand.of_body B)
    exact ⟨t, o, a1, b1, b2, b3⟩
theorem met_of_run (PG : PGok) {n : Nat} (IH : RunOk l X G K n) {a : Nat} {as : List eV} {h : eH} {r : eR} (hr : e_run G K n a 0 (e_args 0 as) [] h 0 0 0 0 = some r) (hwa : e_okS h.length as) (hwh : e_okH h.length h) (hcat : e_cat as ≤ pg_ml a) (cA : Nat → ClassId) (Dg : va_G) (ρ : Nat → Nat) (sz : Nat)
    (Qc : Array Value → State → Outcome → State → Prop) (XC : String → State → State → Prop) (hfin : (r.1 = 0 ∧ Qc = eQc X cA Dg ρ h r.2.2.2.1 r.2.2.2.2.1 (va_A (c_w X cA ρ 0 h) sz)) ∨ (r.1 = 1 ∧ XC = eXc X cA Dg ρ h (eName r.2.1) r.2.2.2.2.1 (va_A (c_w X cA ρ 0 h) sz))) :
    eMet l (m_d a) { frames := r.2.2.2.2.2.2.2.1, cells := r.2.2.2.2.2.1, slots := r.2.2.2.2.2.2.1, locals := r.2.2.2.2.2.2.2.2 } (ePc X cA Dg ρ as h sz) Qc XC r.2.2.2.2.2.1 r.2.2.2.2.2.2.1 (va_A (c_w X cA ρ 0 h) sz) := by
  have body : ∀ (p : Program) (e : Env) (s : State) (m : MethodId) (args : Array Value) (below : List Frame) (meth : Method) (c : Code) (s₁ : State), BodyLoose p l (m_d a).1 (headSpec (eWs (m_d a)) { frames := r.2.2.2.2.2.2.2.1, cells := r.2.2.2.2.2.1, slots := r.2.2.2.2.2.2.1, locals := r.2.2.2.2.2.2.2.2 }) (m_d a).2.1 (m_d a).2.2.1 (m_d a).2.2.2.1 e s m args below meth c s₁ → c.maxLocals = (m_d a).2.2.1 → c.exceptionTable.toList = tableOf (m_d a).2.2.2.2 → ePc X cA Dg ρ as h sz args s →
      W p l e (headSpec (eWs (m_d a)) { frames := r.2.2.2.2.2.2.2.1, cells := r.2.2.2.2.2.1, slots := r.2.2.2.2.2.2.1, locals := r.2.2.2.2.2.2.2.2 }).room s m args below meth c s.heap [] 0 0 (vx_MQ below Qc XC args s r.2.2.2.2.2.1 r.2.2.2.2.2.2.1 (va_A (c_w X cA ρ 0 h) sz)) (entryFrame m args (m_d a).2.2.1) := by
    intro p e s m args below meth c s₁ B hml htab hv
    obtain ⟨rfl, hsz, hP, hK, hD0, hE⟩ := hv
    subst hsz
    have hts := atoms_spec (ws := eWs (m_d a)) B.pre
    have hC : eCx p s m (as.map (c_v X ρ)).toArray meth c (m_d a) := ⟨B.exec, B.bytes, hml, B.returns, fun w hw => hts w (List.mem_cons_of_mem _ hw), findClass_of_methodNamed B.named, B.notSynchronized, (name_of_methodNamed B.named B.method).1, hE.1, htab⟩
    rw [lg_entry_eq]
    have hlen : (lg_sl (as.map (c_v X ρ))).length ≤ (m_d a).2.2.1 := by rw [lg_len, c_cats, ← PG.2.1 a]; exact hcat
    have hl := lv_entry (as.map (c_v X ρ)) hlen
    rw [c_args] at hl
    refine IH a 0 (e_args 0 as) [] h 0 0 0 0 r hr (fun _ h => absurd h List.not_mem_nil) (args_ok hwa) hwh p e _ s m _ below meth c cA Dg (va_A (c_w X cA ρ 0 h) s.heap.size) _ ρ s.heap [] ⟨hC, hK, fun q hq => Or.inr hq, hE⟩ (Nat.le_refl _) (Nat.le_refl _) (Nat.le_refl _) (Nat.le_refl _) ?_ _ hl hP hD0.self va_S.rf
    obtain ⟨k, x, ls, st, hh, c9, s9, f9, w9⟩ := r
    rcases hfin with ⟨h1, h2⟩ | ⟨h1, h2⟩
    · have h1 : k = 0 := h1
      subst h1
      subst h2
      exact ⟨_, _, _, _, _, rfl, Nat.le_refl _, Nat.le_refl _, fun _ q => q, fun ρ' t locs' hρ hP' hD' hS' _ => ⟨⟨ρ', hρ, rfl, hP', hD'⟩, hS'.F rfl⟩⟩
    · have h1 : k = 1 := h1
      subst h1
      subst h2
      exact ⟨_, _, _, _, _, rfl, Nat.le_refl _, Nat.le_refl _, fun _ q => q, fun ρ' t locs' hρ hP' hD' hS' _ => ⟨rfl, ⟨ρ', hρ, hP', hD'⟩, hS'.F rfl⟩⟩
  unfold eMet
  cases hh : (m_d a).2.2.2.2 with
  | nil =>
    refine ea_ofW (by
      have q := PG.2.2.2.2.2 a
      rw [Bool.or_eq_true] at q
      exact q.elim plainFor_of_name (fun q => (Bool.and_eq_true _ _ ▸ q : _ ∧ _).2)) (eWs_nil hh) (fun p e s m args below meth c s₁ B hml hno hv => body p e s m args below meth c s₁ B hml ?_ hv)
    rw [hh]
    exact List.eq_nil_iff_forall_not_mem.mpr hno
  | cons z zs =>
    have e1 : eWs (m_d a) = Cond.codeWith (m_d a).1 (m_d a).2.1 (m_d a).2.2.1 (m_d a).2.2.2.1 (m_d a).2.2.2.2 :: wG := by unfold eWs; rw [hh]
    exact vx_ofWH (by
      have q := PG.2.2.2.2.2 a
      rw [hh, Bool.or_eq_true] at q
      exact q.elim id (fun q => by cases q)) e1 (fun p e s m args below meth c s₁ B hml hv => body p e s m args below meth c s₁ B hml (vx_table (x := (m_d a).1) B (atoms_spec (ws := eWs (m_d a)) B.pre _ (by rw [e1]; exact List.mem_cons_self))) hv)
/-- the known calls are right -/
def kOk (l : Launch) (X : eX) (k : eK) : Prop := ∀ (cA : Nat → ClassId) (Dg : va_G) (ρ : Nat → Nat) (sz : Nat), eMet l (m_d k.1) { frames := k.2.2.2.2.2.2.2.2.2.2.1, cells := k.2.2.2.2.2.2.2.2.1, slots := k.2.2.2.2.2.2.2.2.2.1, locals := k.2.2.2.2.2.2.2.2.2.2.2 } (ePc X cA Dg ρ k.2.1 k.2.2.1 sz) (eQc X cA Dg ρ k.2.2.1 k.2.2.2.2.2.2.1 k.2.2.2.2.2.2.2.1 (va_A (c_w X cA ρ 0 k.2.2.1) sz)) (fun _ _ _ => False) k.2.2.2.2.2.2.2.2.1 k.2.2.2.2.2.2.2.2.2.1 (va_A (c_w X cA ρ 0 k.2.2.1) sz)
theorem cal_met (PG : PGok) {n : Nat} (hKk : ∀ k ∈ K, kOk l X k) (IH : RunOk l X G K n) {a : Nat} {as : List eV} {h : eH} {r : eR} (hr : k_or (k_look K a as h) (e_run G K n a 0 (e_args 0 as) [] h 0 0 0 0) = some r) (hwa : e_okS h.length as) (hwh : e_okH h.length h) (hcat : e_cat as ≤ pg_ml a) (cA : Nat → ClassId) (Dg : va_G) (ρ : Nat → Nat) (sz : Nat)
    (Qc : Array Value → State → Outcome → State → Prop) (XC : String → State → State → Prop) (hfin : (r.1 = 0 ∧ Qc = eQc X cA Dg ρ h r.2.2.2.1 r.2.2.2.2.1 (va_A (c_w X cA ρ 0 h) sz) ∧ XC = fun _ _ _ => False) ∨ (r.1 = 1 ∧ XC = eXc X cA Dg ρ h (eName r.2.1) r.2.2.2.2.1 (va_A (c_w X cA ρ 0 h) sz))) :
    eMet l (m_d a) { frames := r.2.2.2.2.2.2.2.1, cells := r.2.2.2.2.2.1, slots := r.2.2.2.2.2.2.1, locals := r.2.2.2.2.2.2.2.2 } (ePc X cA Dg ρ as h sz) Qc XC r.2.2.2.2.2.1 r.2.2.2.2.2.2.1 (va_A (c_w X cA ρ 0 h) sz) := by
  rcases or_ok hr with hr | hr
  · obtain ⟨q, j, n, hm, he⟩ := look_ok hr
    have hk := hKk _ hm cA Dg ρ sz
    rcases hfin with ⟨-, rfl, rfl⟩ | ⟨h1, -⟩
    · exact hk
    · rw [he] at h1
      cases h1
  · exact met_of_run PG IH hr hwa hwh hcat cA Dg ρ sz Qc XC (hfin.imp (fun h => ⟨h.1, h.2.1⟩) id)
end MET
section GO
variable {p : Program} {l : Launch} {e : Env} {R : Room} {s : State} {m : MethodId} {args : Array Value} {below : List Frame} {meth : Method} {c : Code} {H : Heap} {locs : List Loc} {cells slots mc ms pc nx : Nat} {ls : Array Slot} {st0 rest : List Value} {Qa : State → Outcome → State → Prop} {XC : String → State → State → Prop} {free : Addr → Prop} {Q : State → Prop}
theorem eRun.go (hr : eRun p l e R s m args below meth c H locs cells slots mc ms pc nx ls st0 rest Qa XC free)
    (kk : ∀ (v : Option Value) (st₀ t : State) (L : List Loc), st₀.heap = H → (∀ q ∈ L, free q.base) → s.vm.Alike t.vm → Qa st₀ (.returned v) t → W p l e R s m args below meth c t.heap (locs ++ L) (cells + mc) (slots + ms) Q (F0 m nx ls (v.toList ++ rest)))
    (kx : ∀ (q : Addr) (st₀ t : State) (L : List Loc) (E : String) (ce : Cell), st₀.heap = H → (∀ q ∈ L, free q.base) → s.vm.Alike t.vm → XC E st₀ t → t.heap[q]? = some ce → ce.vm = .none → s.vm.findClass E = some ce.cls → vx_W p l e R s m args below meth c t.heap (locs ++ L) (cells + mc) (slots + ms) Q (F0 m pc ls rest) q) : W p l e R s m args below meth c H locs cells slots Q (F0 m pc ls st0) := by
  intro T hT Xs
  rcases hr T hT Xs with ⟨v, st₀, t, T', L, h0, X', hL, e1, e2, hq, st⟩ | ⟨q, st₀, t, T', L, E, ce, h0, X', hL, e1, e2, hx, hce, hcv, hcl, st⟩
  · obtain ⟨t2, a1, b1⟩ := kk v st₀ t L h0 hL (by rw [← e2]; exact X'.warmed.alike) hq T' e1 X'
    exact ⟨t2, st t2 a1, b1⟩
  · obtain ⟨t2, a1, b1⟩ := kx q st₀ t L E ce h0 hL (by rw [← e2]; exact X'.warmed.alike) hx hce hcv hcl T' e1 X'
    exact ⟨t2, st.trans a1, b1⟩
/-- behind a call: the frame's own word -/
theorem va_S.call {A A1 : Nat → Prop} {s st₀ t : State} {H : Heap} {locs L : List Loc} (hS : va_S A s.heap H locs) (h0 : st₀.heap = H) (hF : va_F A1 st₀ t) (hA : ∀ q, A1 q → A q) (hL : ∀ q ∈ L, A1 q.base) : va_S A s.heap t.heap (locs ++ L) := by
  obtain ⟨h1, h2⟩ := hF
  rw [h0] at h1 h2
  refine ⟨Nat.le_trans hS.1 h1, fun q h3 h4 => ?_, fun q hq => ?_⟩
  · rw [h2 q (Nat.lt_of_lt_of_le h3 hS.1) (fun z => h4 (hA q z))]
    exact hS.2.1 q h3 h4
  · rcases List.mem_append.mp hq with hq | hq
    · exact hS.2.2 q hq
    · exact hA _ (hL q hq)
end GO
