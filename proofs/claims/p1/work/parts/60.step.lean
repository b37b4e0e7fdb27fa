/-! an entry of the tables is right -/
/-- getClass() of a row of references -/
def okGetC (D : eD) (pc nx : Nat) : Prop := ∀ (p : Program) (l : Launch) (e : Env) (R : Room) (s : State) (m : MethodId) (args : Array Value) (below : List Frame) (meth : Method) (c : Code) (H : Heap) (locs : List Loc) (cells slots : Nat) (Q : State → Prop) (X : eX) (ρ : Nat → Nat) (cA : Nat → ClassId) (Dg : va_G) (A : Nat → Prop) (ws : va_W) (a q0 : Nat) (el : List eV) (ls : Array Slot) (st : List Value),
  eCx p s m args meth c D → va_K Dg vwCl (TYs cA) s → eE X A s → va_P Dg vwCl ws H → ws[q0]? = some (a, .inl (cA 7, c_a X ρ 7 el)) → ls.size = D.2.2.1 → 1 ≤ R.frames → (st.map fun v => v.category).sum + 14 ≤ R.locals → W p l e R s m args below meth c H locs cells slots Q (F0 m nx ls (.ref (X.1 8) :: st)) → W p l e R s m args below meth c H locs cells slots Q (F0 m pc ls (.ref a :: st))
/-- System.arraycopy of references, from the first place to the first place -/
def okCopyq (D : eD) (pc nx : Nat) : Prop := ∀ (p : Program) (l : Launch) (e : Env) (R : Room) (s : State) (m : MethodId) (args : Array Value) (below : List Frame) (meth : Method) (c : Code) (H : Heap) (locs : List Loc) (cells slots : Nat) (Q : State → Prop) (X : eX) (ρ : Nat → Nat) (cA : Nat → ClassId) (Dg : va_G) (A : Nat → Prop) (ws : va_W) (a0 a q0 q1 n : Nat) (el fl : List eV) (ls : Array Slot) (st : List Value),
  eCx p s m args meth c D → va_K Dg vwCl (TYs cA) s → va_P Dg vwCl ws H → va_D A ws → va_S A s.heap H locs → ws[q0]? = some (a0, .inl (cA 7, c_a X ρ 7 el)) → ws[q1]? = some (a, .inl (cA 7, c_a X ρ 7 fl)) → (∃ ci : Nat, ∀ (i : Nat) (u : eV) (y : Nat), el[i]? = some u → c_R X ρ u = some y → ∃ (q2 : Nat) (vs : List Value), ws[q2]? = some (y, .inr (ci, vs))) → n ≤ el.length → n ≤ fl.length → n < 65536 → ls.size = D.2.2.1 → 1 ≤ R.frames → (st.map fun v => v.category).sum + 60 ≤ R.locals →
  (∀ (H1 : Heap) (locs1 : List Loc), va_P Dg vwCl (ws.set q1 (a, .inl (cA 7, c_a X ρ 7 (el.take n ++ fl.drop n)))) H1 → va_D A (ws.set q1 (a, .inl (cA 7, c_a X ρ 7 (el.take n ++ fl.drop n)))) → va_S A s.heap H1 locs1 → W p l e R s m args below meth c H1 locs1 cells slots Q (F0 m nx ls st)) → W p l e R s m args below meth c H locs cells slots Q (F0 m pc ls (.int (nI n) :: .int (nI 0) :: .ref a :: .int (nI 0) :: .ref a0 :: st))
/-- the grade of a block by the one sample that there is -/
def okMdl (D : eD) (pc nx : Nat) : Prop := ∀ (p : Program) (l : Launch) (e : Env) (R : Room) (s : State) (m : MethodId) (args : Array Value) (below : List Frame) (meth : Method) (c : Code) (H : Heap) (locs : List Loc) (cells slots : Nat) (Q : State → Prop) (X : eX) (ρ : Nat → Nat) (cA : Nat → ClassId) (Dg : va_G) (A : Nat → Prop) (ws : va_W) (a q0 a1 q1 a2 q2 j : Nat) (v3 : Value) (l1 l2 : List eV) (ls : Array Slot) (st : List Value),
  eCx p s m args meth c D → va_K Dg vwCl (TYs cA) s → eE X A s → va_P Dg vwCl ws H → va_S A s.heap H locs → ws[q0]? = some (a, .inr (8, [.ref a1, .ref a2, v3, .int (nI 1)])) → ws[q1]? = some (a1, .inl (cA 0, c_a X ρ 0 ((4, 1) :: l1))) → ws[q2]? = some (a2, .inl (cA 0, c_a X ρ 0 ((4, 2) :: l2))) →
  (∃ b, b < 60 ∧ X.2 1 = nI b) → (∃ g, g < 100 ∧ X.2 2 = nI g) → j < 60 → ls.size = D.2.2.1 → 3 ≤ R.frames → (st.map fun v => v.category).sum + 100 ≤ R.locals → (st.map fun v => v.category).sum ≤ 8 → cells ≤ R.cells → slots ≤ R.slots → W p l e R s m args below meth c H locs cells slots Q (F0 m nx ls (.int (md_val (X.2 1) (X.2 2) (nI j)) :: st)) → W p l e R s m args below meth c H locs cells slots Q (F0 m pc ls (.int (nI j) :: .ref a :: st))
def e_ok (D : eD) (pc : Nat) (o : eO) : Prop := match o with
  | (g, i, a, b, nx) => match g with
    | 0 => match i with
      | 0 => okPush D pc nx (.int (nI a)) ∨ okPushI D pc nx a
      | 1 => okPush D pc nx (.long (lN a))
      | 2 => okPush D pc nx (.double (UInt64.ofNat a))
      | 3 => okPush D pc nx (.float (UInt32.ofNat a))
      | 4 => okPush D pc nx .null
      | 5 => okPushX D pc nx a
      | _ => True
    | 1 => bif Nat.blt i 4 then okLoad D pc nx i a else bif Nat.blt i 6 then okStore1 D pc nx (i - 4) a else okStore2 D pc nx (i - 4) a
    | 2 => match i with
      | 0 => okIinc D pc nx a b
      | 1 => okDup D pc nx
      | 2 => okPop D pc nx
      | 3 => okDupX D pc nx
      | 4 => okGoto D pc nx
      | _ => True
    | 3 => okBin D pc nx i
    | 4 => okUn D pc nx i
    | 5 => okIf D pc nx a i
    | 6 => okIcmp D pc nx a i
    | 7 => match i with
      | 0 => okGetf D pc nx a b ∧ okGetx D pc nx a b
      | 1 => (∀ (X : eX) (ρ : Nat → Nat), okNew D pc nx a b ((pg_def a).map (c_v X ρ))) ∧ ∀ v ∈ pg_def a, v.1 ≠ 2
      | 2 => okCast D pc nx a
      | 3 => okLen D pc nx ∧ okLenx D pc nx
      | 4 => okObjInit D pc nx
      | 5 => okAcmp D pc nx a true
      | 6 => okAcmp D pc nx a false
      | _ => True
    | 8 => okAld D pc nx i ∧ okAlx D pc nx i
    | 9 => okPutf D pc nx a b i
    | 10 => okAst D pc nx i
    | 11 => okCallM D pc nx (m_d a) b i ∧ (i = 0 ∨ i = 2 → okCallX D pc nx (m_d a) b i)
    | 12 => match i with
      | 0 => okRet0 D pc
      | _ => okRet D pc i
    | 13 => okThrow D pc a
    | 15 => bif Nat.blt i 5 then okLbin D pc nx i else (match i with
      | 5 => okI2l D pc nx
      | 6 => okRw D pc nx [.int (nI 0)] [.float (UInt32.ofNat 0)]
      | 7 => okRw D pc nx [.float (UInt32.ofNat 1114636288), .float (UInt32.ofNat 0)] [.float (UInt32.ofNat 0)]
      | 8 => okRw D pc nx [.float (UInt32.ofNat 0)] [.double (UInt64.ofNat 0)]
      | 9 => okRw D pc nx [.double (UInt64.ofNat 0), .double (UInt64.ofNat 0)] [.int (nI 0)]
      | _ => True)
    | 16 => match i with
      | 0 => okNewA D pc nx a ∧ a < 6
      | 1 => okNewA D pc nx 7
      | 2 => okMulti D pc nx
      | _ => True
    | 17 => match i with
      | 0 => okGetC D pc nx
      | 1 => okCopyq D pc nx
      | _ => True
    | 18 => okMdl D pc nx
    | _ => True
def eFix (p : Program) (s : State) (m : MethodId) (args : Array Value) (meth : Method) (c : Code) (D : eD) (X : eX) (cA : Nat → ClassId) (Dg : va_G) (A : Nat → Prop) : Prop := eCx p s m args meth c D ∧ va_K Dg vwCl (TYs cA) s ∧ (∀ q, s.heap.size ≤ q → A q) ∧ eE X A s
/-- whatever stands for the abstract frame and heap, goes to Q -/
def eGo (D : eD) (p : Program) (l : Launch) (e : Env) (R : Room) (s : State) (m : MethodId) (args : Array Value) (below : List Frame) (meth : Method) (c : Code) (X : eX) (cA : Nat → ClassId) (Dg : va_G) (A : Nat → Prop) (Q : State → Prop) (pc : Nat) (ls : eL) (st : List eV) (h : eH) (cells slots : Nat) (ρ : Nat → Nat) (H : Heap) (locs : List Loc) : Prop :=
  ∀ la : Array Slot, lv_has la D.2.2.1 (c_ls X ρ ls) → va_P Dg vwCl (c_w X cA ρ 0 h) H → va_D A (c_w X cA ρ 0 h) → va_S A s.heap H locs → W p l e R s m args below meth c H locs cells slots Q (F0 m pc la (st.map (c_v X ρ)))
theorem es_1 {G : eG} {i a b nx : Nat} {ls : eL} {st : List eV} {h : eH} : e_step G (1, i, a, b, nx) ls st h = (bif Nat.blt i 4 then (match e_look ls a with
        | some v => bif e_kind i v then e_go nx ls (v :: st) h else none
        | none => none)
      else (match st with
        | v :: rest => bif e_kind (i - 4) v then e_go nx ((a, v) :: (bif Nat.blt i 6 then e_drop1 a ls else e_drop2 a ls)) rest h else none
        | [] => none)) := rfl
section STEP
variable {D : eD} {p : Program} {l : Launch} {e : Env} {R : Room} {s : State} {m : MethodId} {args : Array Value} {below : List Frame} {meth : Method} {c : Code} {X : eX} {cA : Nat → ClassId} {Dg : va_G} {A : Nat → Prop} {Q : State → Prop} {G : eG}
variable {i a b nx pc nx' : Nat} {ls ls' : eL} {st st' : List eV} {h h' : eH} {dc ds df dw cells slots : Nat} {ρ : Nat → Nat} {H : Heap} {locs : List Loc}
theorem go_eq {nx : Nat} {ls : eL} {st : List eV} {h : eH} {nx' : Nat} {ls' : eL} {st' : List eV} {h' : eH} {dc ds df dw : Nat} (hs : e_go nx ls st h = some (nx', ls', st', h', dc, ds, df, dw)) : nx' = nx ∧ ls' = ls ∧ st' = st ∧ h' = h ∧ dc = 0 ∧ ds = 0 := by
  cases hs
  exact ⟨rfl, rfl, rfl, rfl, rfl, rfl⟩
abbrev eNext (D : eD) (p : Program) (l : Launch) (e : Env) (R : Room) (s : State) (m : MethodId) (args : Array Value) (below : List Frame) (meth : Method) (c : Code) (X : eX) (cA : Nat → ClassId) (Dg : va_G) (A : Nat → Prop) (Q : State → Prop) (ρ : Nat → Nat) (n : Nat) (r : eS) (cells slots : Nat) : Prop :=
  ∀ (ρ' : Nat → Nat) (H' : Heap) (locs' : List Loc), (∀ k, k < n → ρ' k = ρ k) → eGo D p l e R s m args below meth c X cA Dg A Q r.1 r.2.1 r.2.2.1 r.2.2.2.1 (cells + r.2.2.2.2.1) (slots + r.2.2.2.2.2.1) ρ' H' locs'
theorem step_0 (hF : eFix p s m args meth c D X cA Dg A) (hok : e_ok D pc (0, i, a, b, nx)) {r : eS} (hs : e_step G (0, i, a, b, nx) ls st h = some r) (kk : eNext D p l e R s m args below meth c X cA Dg A Q ρ h.length r cells slots) : eGo D p l e R s m args below meth c X cA Dg A Q pc ls st h cells slots ρ H locs := by
  intro la hl hP hD hS
  match i, hok, hs with
  | 0, hok, hs =>
    cases hs
    have k2 := kk ρ H locs (fun _ _ => rfl) la hl hP hD hS
    rcases hok with hok | hok
    · exact hok _ _ _ _ _ _ _ _ _ _ _ _ _ _ _ _ _ hF.1 k2
    · exact hok _ _ _ _ _ _ _ _ _ _ _ _ _ _ _ X A _ _ hF.1 hF.2.2.2 hS k2
  | 1, hok, hs =>
    cases hs
    exact hok _ _ _ _ _ _ _ _ _ _ _ _ _ _ _ _ _ hF.1 (kk ρ H locs (fun _ _ => rfl) la hl hP hD hS)
  | 2, hok, hs =>
    cases hs
    exact hok _ _ _ _ _ _ _ _ _ _ _ _ _ _ _ _ _ hF.1 (kk ρ H locs (fun _ _ => rfl) la hl hP hD hS)
  | 3, hok, hs =>
    cases hs
    exact hok _ _ _ _ _ _ _ _ _ _ _ _ _ _ _ _ _ hF.1 (kk ρ H locs (fun _ _ => rfl) la hl hP hD hS)
  | 4, hok, hs =>
    cases hs
    exact hok _ _ _ _ _ _ _ _ _ _ _ _ _ _ _ _ _ hF.1 (kk ρ H locs (fun _ _ => rfl) la hl hP hD hS)
  | 5, hok, hs =>
    cases hs
    exact hok _ _ _ _ _ _ _ _ _ _ _ _ _ _ _ X A _ _ hF.1 hF.2.2.2 hS (kk ρ H locs (fun _ _ => rfl) la hl hP hD hS)
  | i + 6, hok, hs => cases hs
theorem kind_ok (X : eX) (ρ : Nat → Nat) {i : Nat} {v : eV} (h : e_kind i v = true) : kV i (c_v X ρ v) := by
  match i, h with
  | 0, h => exact ⟨_, c_isI X ρ h⟩
  | 1, h =>
    obtain ⟨t, n⟩ := v
    have h : e_isR (t, n) = true := h
    simp only [e_isR, Bool.or_eq_true] at h
    rcases h with h | h <;> (have := Nat.eq_of_beq_eq_true h; subst this; exact ⟨_, rfl⟩)
  | 2, h => exact ⟨_, c_isLong h⟩
  | 3, h => exact ⟨_, c_isDouble h⟩
  | i + 4, h => cases h
theorem step_1 (hF : eFix p s m args meth c D X cA Dg A) (hok : e_ok D pc (1, i, a, b, nx)) {r : eS} (hs : e_step G (1, i, a, b, nx) ls st h = some r) (kk : eNext D p l e R s m args below meth c X cA Dg A Q ρ h.length r cells slots) : eGo D p l e R s m args below meth c X cA Dg A Q pc ls st h cells slots ρ H locs := by
  intro la hl hP hD hS
  rw [es_1] at hs
  have hok : (bif Nat.blt i 4 then okLoad D pc nx i a else bif Nat.blt i 6 then okStore1 D pc nx (i - 4) a else okStore2 D pc nx (i - 4) a) := hok
  cases h4 : Nat.blt i 4
  · rw [h4] at hs hok
    cases st with
    | nil => cases hs
    | cons v rest =>
      have hs : (bif e_kind (i - 4) v then e_go nx ((a, v) :: (bif Nat.blt i 6 then e_drop1 a ls else e_drop2 a ls)) rest h else none) = some r := hs
      cases hk : e_kind (i - 4) v
      · rw [hk] at hs; cases hs
      · rw [hk] at hs
        have hk2 := kind_ok X ρ hk
        have hok : (bif Nat.blt i 6 then okStore1 D pc nx (i - 4) a else okStore2 D pc nx (i - 4) a) := hok
        cases h6 : Nat.blt i 6
        · rw [h6] at hs hok
          cases hs
          refine hok la (c_ls X ρ ls) _ (c_v X ρ v) hk2 hl _ _ _ _ _ _ _ _ _ _ _ _ _ _ _ hF.1 (fun la' hl' => ?_)
          rw [c_drop2] at hl'
          exact kk ρ H locs (fun _ _ => rfl) la' hl' hP hD hS
        · rw [h6] at hs hok
          cases hs
          refine hok la (c_ls X ρ ls) _ (c_v X ρ v) hk2 hl _ _ _ _ _ _ _ _ _ _ _ _ _ _ _ hF.1 (fun la' hl' => ?_)
          rw [c_drop1] at hl'
          exact kk ρ H locs (fun _ _ => rfl) la' hl' hP hD hS
  · rw [h4] at hs hok
    have hs : (match e_look ls a with
        | some v => bif e_kind i v then e_go nx ls (v :: st) h else none
        | none => none) = some r := hs
    cases hv : e_look ls a with
    | none => rw [hv] at hs; cases hs
    | some v =>
      rw [hv] at hs
      have hs : (bif e_kind i v then e_go nx ls (v :: st) h else none) = some r := hs
      cases hk : e_kind i v
      · rw [hk] at hs; cases hs
      · rw [hk] at hs
        cases hs
        exact hok la _ _ (kind_ok X ρ hk) (c_lookv hv hl) _ _ _ _ _ _ _ _ _ _ _ _ _ _ _ hF.1 (kk ρ H locs (fun _ _ => rfl) la hl hP hD hS)
theorem cat1 (X : eX) (ρ : Nat → Nat) {v : eV} (h : e_wide v = false) : (c_v X ρ v).category = 1 := by rw [c_cat, h]; rfl
theorem step_2 (hF : eFix p s m args meth c D X cA Dg A) (hok : e_ok D pc (2, i, a, b, nx)) {r : eS} (hs : e_step G (2, i, a, b, nx) ls st h = some r) (kk : eNext D p l e R s m args below meth c X cA Dg A Q ρ h.length r cells slots) : eGo D p l e R s m args below meth c X cA Dg A Q pc ls st h cells slots ρ H locs := by
  intro la hl hP hD hS
  match i, hok, hs with
  | 0, hok, hs =>
    have hs : (match e_look ls a with
        | some (0, n) => e_go nx ((a, (0, (n + b) % 4294967296)) :: e_drop1 a ls) st h
        | _ => none) = some r := hs
    split at hs
    · rename_i n hv
      cases hs
      have hm : (a, Value.int (nI n)) ∈ c_ls X ρ ls := List.mem_map_of_mem (f := fun q : Nat × eV => (q.1, c_v X ρ q.2)) (c_look X ρ hv)
      refine hok la (c_ls X ρ ls) _ (nI n) hl hm _ _ _ _ _ _ _ _ _ _ _ _ _ _ _ hF.1 (fun la' hl' => ?_)
      rw [c_drop1, nI_add, ← nI_mod] at hl'
      exact kk ρ H locs (fun _ _ => rfl) la' hl' hP hD hS
    · cases hs
  | 1, hok, hs =>
    cases st with
    | nil => cases hs
    | cons v rest =>
      have hs : (bif e_wide v then none else e_go nx ls (v :: v :: rest) h) = some r := hs
      cases hw : e_wide v
      · rw [hw] at hs
        cases hs
        exact hok la _ _ (cat1 X ρ hw) _ _ _ _ _ _ _ _ _ _ _ _ _ _ _ hF.1 (kk ρ H locs (fun _ _ => rfl) la hl hP hD hS)
      · rw [hw] at hs; cases hs
  | 2, hok, hs =>
    cases st with
    | nil => cases hs
    | cons v rest =>
      have hs : (bif e_wide v then none else e_go nx ls rest h) = some r := hs
      cases hw : e_wide v
      · rw [hw] at hs
        cases hs
        exact hok la _ _ (cat1 X ρ hw) _ _ _ _ _ _ _ _ _ _ _ _ _ _ _ hF.1 (kk ρ H locs (fun _ _ => rfl) la hl hP hD hS)
      · rw [hw] at hs; cases hs
  | 3, hok, hs =>
    match st, hs with
    | [], hs => cases hs
    | [_], hs => cases hs
    | v :: w :: rest, hs =>
      have hs : (bif e_wide v || e_wide w then none else e_go nx ls (v :: w :: v :: rest) h) = some r := hs
      cases hw : e_wide v
      · cases hw2 : e_wide w
        · rw [hw, hw2] at hs
          cases hs
          exact hok la _ _ _ (cat1 X ρ hw) (cat1 X ρ hw2) _ _ _ _ _ _ _ _ _ _ _ _ _ _ _ hF.1 (kk ρ H locs (fun _ _ => rfl) la hl hP hD hS)
        · rw [hw, hw2] at hs; cases hs
      · rw [hw] at hs; cases hs
  | 4, hok, hs =>
    cases hs
    exact hok la _ _ _ _ _ _ _ _ _ _ _ _ _ _ _ _ hF.1 (kk ρ H locs (fun _ _ => rfl) la hl hP hD hS)
  | i + 5, hok, hs => cases hs
theorem step_3 (hG : e_ok0 X G) (hF : eFix p s m args meth c D X cA Dg A) (hok : e_ok D pc (3, i, a, b, nx)) {r : eS} (hs : e_step G (3, i, a, b, nx) ls st h = some r) (kk : eNext D p l e R s m args below meth c X cA Dg A Q ρ h.length r cells slots) : eGo D p l e R s m args below meth c X cA Dg A Q pc ls st h cells slots ρ H locs := by
  intro la hl hP hD hS
  match st, hs with
  | [], hs => cases hs
  | [_], hs => cases hs
  | y :: x :: rest, hs =>
    have hs : (match e_bin G i x y with
        | some v => e_go nx ls (v :: rest) h
        | none => none) = some r := hs
    cases hv : e_bin G i x y with
    | none => rw [hv] at hs; cases hs
    | some v =>
      rw [hv] at hs
      cases hs
      obtain ⟨h1, h2, h3, h4⟩ := e_bin_ok hG hv
      have k2 := kk ρ H locs (fun _ _ => rfl) la hl hP hD hS
      have k2 : W p l e R s m args below meth c H locs cells slots Q (F0 m nx la (c_v X ρ v :: rest.map (c_v X ρ))) := k2
      show W p l e R s m args below meth c H locs cells slots Q (F0 m pc la (c_v X ρ y :: c_v X ρ x :: rest.map (c_v X ρ)))
      rw [c_isI X ρ h3] at k2
      rw [c_isI X ρ h1, c_isI X ρ h2]
      exact hok la _ _ _ _ h4 _ _ _ _ _ _ _ _ _ _ _ _ _ _ _ hF.1 k2
theorem step_4 (hG : e_ok0 X G) (hF : eFix p s m args meth c D X cA Dg A) (hok : e_ok D pc (4, i, a, b, nx)) {r : eS} (hs : e_step G (4, i, a, b, nx) ls st h = some r) (kk : eNext D p l e R s m args below meth c X cA Dg A Q ρ h.length r cells slots) : eGo D p l e R s m args below meth c X cA Dg A Q pc ls st h cells slots ρ H locs := by
  intro la hl hP hD hS
  match st, hs with
  | [], hs => cases hs
  | x :: rest, hs =>
    have hs : (match e_un G i x with
        | some v => e_go nx ls (v :: rest) h
        | none => none) = some r := hs
    cases hv : e_un G i x with
    | none => rw [hv] at hs; cases hs
    | some v =>
      rw [hv] at hs
      cases hs
      obtain ⟨h1, h3, h4⟩ := e_un_ok hG hv
      have k2 := kk ρ H locs (fun _ _ => rfl) la hl hP hD hS
      have k2 : W p l e R s m args below meth c H locs cells slots Q (F0 m nx la (c_v X ρ v :: rest.map (c_v X ρ))) := k2
      show W p l e R s m args below meth c H locs cells slots Q (F0 m pc la (c_v X ρ x :: rest.map (c_v X ρ)))
      rw [c_isI X ρ h3] at k2
      rw [c_isI X ρ h1]
      exact hok la _ _ _ h4 _ _ _ _ _ _ _ _ _ _ _ _ _ _ _ hF.1 k2
theorem step_5 (hG : e_ok0 X G) (hF : eFix p s m args meth c D X cA Dg A) (hok : e_ok D pc (5, i, a, b, nx)) {r : eS} (hs : e_step G (5, i, a, b, nx) ls st h = some r) (kk : eNext D p l e R s m args below meth c X cA Dg A Q ρ h.length r cells slots) : eGo D p l e R s m args below meth c X cA Dg A Q pc ls st h cells slots ρ H locs := by
  intro la hl hP hD hS
  match st, hs with
  | [], hs => cases hs
  | x :: rest, hs =>
    have hs : (match e_cond G i x (0, 0) with
        | some c => e_go (bif c then a else nx) ls rest h
        | none => none) = some r := hs
    cases hv : e_cond G i x (0, 0) with
    | none => rw [hv] at hs; cases hs
    | some z =>
      rw [hv] at hs
      cases hs
      obtain ⟨_, h1, _, h4⟩ := e_cond_ok hG hv
      have h4 : z = true ↔ e_condR i (c_I X x) 0 := h4
      have k2 := kk ρ H locs (fun _ _ => rfl) la hl hP hD hS
      have k2 : W p l e R s m args below meth c H locs cells slots Q (F0 m (bif z then a else nx) la (rest.map (c_v X ρ))) := k2
      show W p l e R s m args below meth c H locs cells slots Q (F0 m pc la (c_v X ρ x :: rest.map (c_v X ρ)))
      rw [c_isI X ρ h1]
      refine hok la _ _ _ _ _ _ _ _ _ _ _ _ _ _ _ _ _ hF.1 (fun q => ?_) (fun q => ?_)
      · rw [h4.mpr q] at k2; exact k2
      · have : z = false := by cases z; rfl; exact absurd (h4.mp rfl) q
        rw [this] at k2; exact k2
theorem step_6 (hG : e_ok0 X G) (hF : eFix p s m args meth c D X cA Dg A) (hok : e_ok D pc (6, i, a, b, nx)) {r : eS} (hs : e_step G (6, i, a, b, nx) ls st h = some r) (kk : eNext D p l e R s m args below meth c X cA Dg A Q ρ h.length r cells slots) : eGo D p l e R s m args below meth c X cA Dg A Q pc ls st h cells slots ρ H locs := by
  intro la hl hP hD hS
  match st, hs with
  | [], hs => cases hs
  | [_], hs => cases hs
  | y :: x :: rest, hs =>
    have hs : (match e_cond G i x y with
        | some c => e_go (bif c then a else nx) ls rest h
        | none => none) = some r := hs
    cases hv : e_cond G i x y with
    | none => rw [hv] at hs; cases hs
    | some z =>
      rw [hv] at hs
      cases hs
      obtain ⟨_, h1, h2, h4⟩ := e_cond_ok hG hv
      have k2 := kk ρ H locs (fun _ _ => rfl) la hl hP hD hS
      have k2 : W p l e R s m args below meth c H locs cells slots Q (F0 m (bif z then a else nx) la (rest.map (c_v X ρ))) := k2
      show W p l e R s m args below meth c H locs cells slots Q (F0 m pc la (c_v X ρ y :: c_v X ρ x :: rest.map (c_v X ρ)))
      rw [c_isI X ρ h1, c_isI X ρ h2]
      refine hok la _ _ _ _ _ _ _ _ _ _ _ _ _ _ _ _ _ _ hF.1 (fun q => ?_) (fun q => ?_)
      · rw [h4.mpr q] at k2; exact k2
      · have : z = false := by cases z; rfl; exact absurd (h4.mp rfl) q
        rw [this] at k2; exact k2
end STEP
