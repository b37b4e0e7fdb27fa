/-! arrays -/
section OKA
variable (D : eD) (pc nx : Nat)
def okAld (t : Nat) : Prop := ∀ (p : Program) (l : Launch) (e : Env) (R : Room) (s : State) (m : MethodId) (args : Array Value) (below : List Frame) (meth : Method) (c : Code) (H : Heap) (locs : List Loc) (cells slots : Nat) (Q : State → Prop) (X : eX) (ρ : Nat → Nat) (cA : Nat → ClassId) (Dg : va_G) (ws : va_W) (a q0 j : Nat) (el : List eV) (u : eV) (ls : Array Slot) (st : List Value),
  eCx p s m args meth c D → va_K Dg vwCl (TYs cA) s → va_P Dg vwCl ws H → ws[q0]? = some (a, .inl (cA t, c_a X ρ t el)) → j < 65536 → el[j]? = some u → e_tyok t u = true → W p l e R s m args below meth c H locs cells slots Q (F0 m nx ls (c_v X ρ u :: st)) → W p l e R s m args below meth c H locs cells slots Q (F0 m pc ls (.int (nI j) :: .ref a :: st))
def okAlx (t : Nat) : Prop := ∀ (p : Program) (l : Launch) (e : Env) (R : Room) (s : State) (m : MethodId) (args : Array Value) (below : List Frame) (meth : Method) (c : Code) (H : Heap) (locs : List Loc) (cells slots : Nat) (Q : State → Prop) (X : eX) (ρ : Nat → Nat) (A : Nat → Prop) (x j : Nat) (el : List eV) (u : eV) (ls : Array Slot) (st : List Value),
  eCx p s m args meth c D → eE X A s → va_S A s.heap H locs → pg_xa x = some (t, el) → j < 65536 → el[j]? = some u → W p l e R s m args below meth c H locs cells slots Q (F0 m nx ls (c_v X ρ u :: st)) → W p l e R s m args below meth c H locs cells slots Q (F0 m pc ls (.int (nI j) :: .ref (X.1 x) :: st))
def okAst (t : Nat) : Prop := ∀ (p : Program) (l : Launch) (e : Env) (R : Room) (s : State) (m : MethodId) (args : Array Value) (below : List Frame) (meth : Method) (c : Code) (H : Heap) (locs : List Loc) (cells slots : Nat) (Q : State → Prop) (X : eX) (ρ : Nat → Nat) (cA : Nat → ClassId) (Dg : va_G) (A : Nat → Prop) (H0 : Heap) (ws : va_W) (a q0 j : Nat) (el : List eV) (u : eV) (ls : Array Slot) (st : List Value),
  eCx p s m args meth c D → va_K Dg vwCl (TYs cA) s → va_P Dg vwCl ws H → va_D A ws → va_S A H0 H locs → ws[q0]? = some (a, .inl (cA t, c_a X ρ t el)) → j < 65536 → j < el.length → (t ≤ 2 → e_isI u = true) → fitV t (c_v X ρ u) → (t = 7 → ∃ b C, c_v X ρ u = .ref b ∧ va_Nw (.castable C "java/lang/Object") s ∧ ∃ cell : Cell, H[b]? = some cell ∧ cell.vm.isStatics = false ∧ s.vm.findClass C = some cell.cls) →
  (∀ (H1 : Heap) (locs1 : List Loc), va_P Dg vwCl (ws.set q0 (a, .inl (cA t, c_a X ρ t (el.set j u)))) H1 → va_D A (ws.set q0 (a, .inl (cA t, c_a X ρ t (el.set j u)))) → va_S A H0 H1 locs1 → W p l e R s m args below meth c H1 locs1 cells slots Q (F0 m nx ls st)) → W p l e R s m args below meth c H locs cells slots Q (F0 m pc ls (c_v X ρ u :: .int (nI j) :: .ref a :: st))
def okLen : Prop := ∀ (p : Program) (l : Launch) (e : Env) (R : Room) (s : State) (m : MethodId) (args : Array Value) (below : List Frame) (meth : Method) (c : Code) (H : Heap) (locs : List Loc) (cells slots : Nat) (Q : State → Prop) (X : eX) (ρ : Nat → Nat) (cA : Nat → ClassId) (Dg : va_G) (ws : va_W) (a q0 t : Nat) (el : List eV) (ls : Array Slot) (st : List Value),
  eCx p s m args meth c D → va_K Dg vwCl (TYs cA) s → va_P Dg vwCl ws H → t < 8 → ws[q0]? = some (a, .inl (cA t, c_a X ρ t el)) → W p l e R s m args below meth c H locs cells slots Q (F0 m nx ls (.int (nI el.length) :: st)) → W p l e R s m args below meth c H locs cells slots Q (F0 m pc ls (.ref a :: st))
def okLenx : Prop := ∀ (p : Program) (l : Launch) (e : Env) (R : Room) (s : State) (m : MethodId) (args : Array Value) (below : List Frame) (meth : Method) (c : Code) (H : Heap) (locs : List Loc) (cells slots : Nat) (Q : State → Prop) (X : eX) (A : Nat → Prop) (x t : Nat) (el : List eV) (ls : Array Slot) (st : List Value),
  eCx p s m args meth c D → eE X A s → va_S A s.heap H locs → pg_xa x = some (t, el) → W p l e R s m args below meth c H locs cells slots Q (F0 m nx ls (.int (nI el.length) :: st)) → W p l e R s m args below meth c H locs cells slots Q (F0 m pc ls (.ref (X.1 x) :: st))
def okNewA (t : Nat) : Prop := ∀ (p : Program) (l : Launch) (e : Env) (R : Room) (s : State) (m : MethodId) (args : Array Value) (below : List Frame) (meth : Method) (c : Code) (H : Heap) (locs : List Loc) (cells slots : Nat) (Q : State → Prop) (X : eX) (ρ : Nat → Nat) (cA : Nat → ClassId) (Dg : va_G) (A : Nat → Prop) (ws : va_W) (n : Nat) (ls : Array Slot) (st : List Value),
  eCx p s m args meth c D → va_K Dg vwCl (TYs cA) s → eE X A s → va_P Dg vwCl ws H → va_D A ws → va_S A s.heap H locs → (∀ q, s.heap.size ≤ q → A q) → n < 65536 → cells + 1 ≤ R.cells → slots + n ≤ R.slots →
  (∀ (q : Nat) (H1 : Heap), va_P Dg vwCl (ws ++ [(q, .inl (cA t, c_a X ρ t (e_rep (e_dflt t) n)))]) H1 → va_D A (ws ++ [(q, .inl (cA t, c_a X ρ t (e_rep (e_dflt t) n)))]) → va_S A s.heap H1 locs → W p l e R s m args below meth c H1 locs (cells + 1) (slots + n) Q (F0 m nx ls (.ref q :: st))) → W p l e R s m args below meth c H locs cells slots Q (F0 m pc ls (.int (nI n) :: st))
def okMulti : Prop := ∀ (p : Program) (l : Launch) (e : Env) (R : Room) (s : State) (m : MethodId) (args : Array Value) (below : List Frame) (meth : Method) (c : Code) (H : Heap) (locs : List Loc) (cells slots : Nat) (Q : State → Prop) (X : eX) (ρ : Nat → Nat) (cA : Nat → ClassId) (Dg : va_G) (A : Nat → Prop) (ws : va_W) (n k : Nat) (ls : Array Slot) (st : List Value),
  eCx p s m args meth c D → va_K Dg vwCl (TYs cA) s → eE X A s → va_P Dg vwCl ws H → va_D A ws → va_S A s.heap H locs → (∀ q, s.heap.size ≤ q → A q) → n < 65536 → k < 65536 → cells + (1 + n) ≤ R.cells → slots + (n + n * k) ≤ R.slots →
  (∀ (q : Nat) (r : Nat → Nat) (H1 : Heap), va_P Dg vwCl ((ws ++ [(q, .inl (cA 6, n, .inr (.inr (.inr (.inr (fun i => if i < n then some (r i) else none))))))]) ++ (List.range n).map (fun i => (r i, .inl (cA 0, c_a X ρ 0 (e_rep (0, 0) k))))) H1 → va_D A ((ws ++ [(q, .inl (cA 6, n, .inr (.inr (.inr (.inr (fun i => if i < n then some (r i) else none))))))]) ++ (List.range n).map (fun i => (r i, .inl (cA 0, c_a X ρ 0 (e_rep (0, 0) k))))) → va_S A s.heap H1 locs → W p l e R s m args below meth c H1 locs (cells + 1 + n) (slots + n + n * k) Q (F0 m nx ls (.ref q :: st))) → W p l e R s m args below meth c H locs cells slots Q (F0 m pc ls (.int (nI k) :: .int (nI n) :: st))
end OKA
theorem e_rep_len {α : Type} (x : α) : ∀ n, (e_rep x n).length = n
  | 0 => rfl
  | n + 1 => congrArg (· + 1) (e_rep_len x n)
theorem e_rep_getD {α : Type} (x : α) : ∀ (n j : Nat), (e_rep x n).getD j x = x
  | 0, j => by cases j <;> rfl
  | n + 1, 0 => rfl
  | n + 1, j + 1 => by
    rw [List.getD_eq_getElem?_getD]
    show ((e_rep x n)[j]?).getD x = x
    rw [← List.getD_eq_getElem?_getD]
    exact e_rep_getD x n j
theorem getD_of {α : Type} {l : List α} {j : Nat} {u d : α} (h : l[j]? = some u) : l.getD j d = u := by rw [List.getD_eq_getElem?_getD, h]; rfl
theorem getD_set {α : Type} {l : List α} {j k : Nat} {u d : α} (h : j < l.length) : (l.set j u).getD k d = if k = j then u else l.getD k d := by
  rw [List.getD_eq_getElem?_getD, List.getD_eq_getElem?_getD, List.getElem?_set]
  by_cases q : j = k
  · subst q; simp [h]
  · rw [if_neg q, if_neg (fun r => q r.symm)]
theorem lt_of_getElem? {α : Type} {l : List α} {j : Nat} {u : α} (h : l[j]? = some u) : j < l.length := (List.getElem?_eq_some_iff.mp h).1
theorem vp_in_of_lt {j n : Nat} (h : j < n) (hj : j < 65536) : vp_in (nI j) n := fun q => by
  rcases q with q | q
  · exact nI_pos (by omega) q
  · rw [nI_clamp (by omega)] at q; omega
theorem cl16 {j : Nat} (hj : j < 65536) : (nI j).toNatClampNeg = j := nI_clamp (by omega)
theorem c_isLong {X : eX} {ρ : Nat → Nat} {v : eV} (h : Nat.beq v.1 5 = true) : c_v X ρ v = .long (c_L v) := by
  obtain ⟨t, n⟩ := v
  have := Nat.eq_of_beq_eq_true h
  subst this; rfl
theorem c_isDouble {X : eX} {ρ : Nat → Nat} {v : eV} (h : Nat.beq v.1 6 = true) : c_v X ρ v = .double (c_D v) := by
  obtain ⟨t, n⟩ := v
  have := Nat.eq_of_beq_eq_true h
  subst this; rfl
theorem c_isQ {X : eX} {ρ : Nat → Nat} {v : eV} (h : e_isQ v = true) : c_v X ρ v = va_rf (c_R X ρ v) := by
  obtain ⟨t, n⟩ := v
  simp only [e_isQ, e_isR, Bool.or_eq_true] at h
  rcases h with h | h | h <;> (have := Nat.eq_of_beq_eq_true h; subst this; rfl)
theorem inv_long {X : eX} {ρ : Nat → Nat} {u : eV} {x : Int64} (q : c_v X ρ u = .long x) : c_L u = x := by
  obtain ⟨t, n⟩ := u
  match t, q with
  | 0, q => cases q
  | 1, q => cases q
  | 2, q => cases q
  | 3, q => cases q
  | 4, q => cases q
  | 5, q => exact Value.long.inj q
  | 6, q => cases q
  | 7, q => cases q
  | t + 8, q => cases q
theorem inv_ref {X : eX} {ρ : Nat → Nat} {u : eV} {b : Nat} (q : c_v X ρ u = .ref b) : c_R X ρ u = some b := by
  obtain ⟨t, n⟩ := u
  match t, q with
  | 0, q => cases q
  | 1, q => cases q
  | 2, q => exact congrArg some (Value.ref.inj q)
  | 3, q => exact congrArg some (Value.ref.inj q)
  | 4, q => cases q
  | 5, q => cases q
  | 6, q => cases q
  | 7, q => cases q
  | t + 8, q => cases q
theorem c_a_i {X : eX} {ρ : Nat → Nat} {t : Nat} {l : List eV} (h : t ≤ 2 ∨ t = 5) : c_a X ρ t l = (l.length, .inl fun j => c_I X (l.getD j (0, 0))) := by
  match t, h with
  | 0, _ => rfl
  | 1, _ => rfl
  | 2, _ => rfl
  | 5, _ => rfl
  | 3, h => omega
  | 4, h => omega
  | t + 6, h => omega
theorem c_a_3 {X : eX} {ρ : Nat → Nat} {l : List eV} : c_a X ρ 3 l = (l.length, .inr (.inl fun j => c_L (l.getD j (5, 0)))) := rfl
theorem c_a_4 {X : eX} {ρ : Nat → Nat} {l : List eV} : c_a X ρ 4 l = (l.length, .inr (.inr (.inr (.inl fun j => c_D (l.getD j (6, 0)))))) := rfl
theorem c_a_6 {X : eX} {ρ : Nat → Nat} {l : List eV} : c_a X ρ 6 l = (l.length, .inr (.inr (.inr (.inr fun j => c_R X ρ (l.getD j (1, 0)))))) := rfl
theorem c_a_7 {X : eX} {ρ : Nat → Nat} {l : List eV} : c_a X ρ 7 l = (l.length, .inr (.inr (.inr (.inr fun j => c_R X ρ (l.getD j (1, 0)))))) := rfl
section OKAL
variable {D : eD} {pc nx : Nat}
theorem oka_i (d : decode D.2.1 pc = .ok (.iaload, 1)) : okAld D pc (pc + 1) 0 :=
  fun _ _ _ _ _ _ _ _ _ _ _ _ _ _ _ X ρ cA Dg ws a q0 j el u ls st ⟨hx, hb, _⟩ hK hP ha hj hu ht kk => by
    refine va_iald hx hb hK hP q0 0 ha (TYs_at (by decide)) (vp_in_of_lt (lt_of_getElem? hu) hj) d ?_
    rw [cl16 hj, getD_of hu, ← c_isI X ρ ht]
    exact kk
theorem oka_z (d : decode D.2.1 pc = .ok (.baload, 1)) : okAld D pc (pc + 1) 1 :=
  fun _ _ _ _ _ _ _ _ _ _ _ _ _ _ _ X ρ cA Dg ws a q0 j el u ls st ⟨hx, hb, _⟩ hK hP ha hj hu ht kk => by
    refine va_zald hx hb hK hP q0 1 ha (TYs_at (by decide)) (vp_in_of_lt (lt_of_getElem? hu) hj) d ?_
    rw [cl16 hj, getD_of hu, ← c_isI X ρ ht]
    exact kk
theorem oka_c (d : decode D.2.1 pc = .ok (.caload, 1)) : okAld D pc (pc + 1) 2 :=
  fun _ _ _ _ _ _ _ _ _ _ _ _ _ _ _ X ρ cA Dg ws a q0 j el u ls st ⟨hx, hb, _⟩ hK hP ha hj hu ht kk => by
    refine va_cald hx hb hK hP q0 2 ha (TYs_at (by decide)) (vp_in_of_lt (lt_of_getElem? hu) hj) d ?_
    rw [cl16 hj, getD_of hu, ← c_isI X ρ ht]
    exact kk
theorem oka_b (d : decode D.2.1 pc = .ok (.baload, 1)) : okAld D pc (pc + 1) 5 :=
  fun _ _ _ _ _ _ _ _ _ _ _ _ _ _ _ X ρ cA Dg ws a q0 j el u ls st ⟨hx, hb, _⟩ hK hP ha hj hu ht kk => by
    refine va_bald hx hb hK hP q0 5 ha (TYs_at (by decide)) (vp_in_of_lt (lt_of_getElem? hu) hj) d ?_
    rw [cl16 hj, getD_of hu, ← c_isI X ρ ht]
    exact kk
theorem oka_l (d : decode D.2.1 pc = .ok (.laload, 1)) : okAld D pc (pc + 1) 3 :=
  fun _ _ _ _ _ _ _ _ _ _ _ _ _ _ _ X ρ cA Dg ws a q0 j el u ls st ⟨hx, hb, _⟩ hK hP ha hj hu ht kk => by
    refine va_lald hx hb hK hP q0 3 ha (TYs_at (by decide)) (vp_in_of_lt (lt_of_getElem? hu) hj) d ?_
    rw [cl16 hj, getD_of hu, ← c_isLong (X := X) (ρ := ρ) ht]
    exact kk
theorem oka_d (d : decode D.2.1 pc = .ok (.daload, 1)) : okAld D pc (pc + 1) 4 :=
  fun _ _ _ _ _ _ _ _ _ _ _ _ _ _ _ X ρ cA Dg ws a q0 j el u ls st ⟨hx, hb, _⟩ hK hP ha hj hu ht kk => by
    refine va_dald hx hb hK hP q0 4 ha (TYs_at (by decide)) (vp_in_of_lt (lt_of_getElem? hu) hj) d ?_
    rw [cl16 hj, getD_of hu, ← c_isDouble (X := X) (ρ := ρ) ht]
    exact kk
theorem oka_q {t : Nat} (h67 : t = 6 ∨ t = 7) (d : decode D.2.1 pc = .ok (.aaload, 1)) : okAld D pc (pc + 1) t :=
  fun _ _ _ _ _ _ _ _ _ _ _ _ _ _ _ X ρ cA Dg ws a q0 j el u ls st ⟨hx, hb, _⟩ hK hP ha hj hu ht kk => by
    have hlt := lt_of_getElem? hu
    have hc := hP q0 _ ha
    have hin := vp_in_of_lt hlt hj
    have e1 : vp_cell (cA t) (c_a X ρ t el) = arrV (cA t) el.length (fun j => va_rf (c_R X ρ (el.getD j (1, 0)))) := by rcases h67 with rfl | rfl <;> rfl
    have hc : _ = some (vp_cell (cA t) (c_a X ρ t el)) := hc
    rw [e1] at hc
    have hq : e_isQ u = true := by rcases h67 with rfl | rfl <;> exact ht
    refine W.aald (v := c_v X ρ u) (ty := e_ty t) hx hb hc ((hK.2 t _ (TYs_at (by rcases h67 with rfl | rfl <;> decide))).1 _ _) (by rcases h67 with rfl | rfl <;> rfl) (fun q => by cases q) (by show ¬ (nI j < 0 ∨ (arrV _ _ _).slots.size ≤ _); rw [arrV_size]; exact hin) (by show (arrV _ _ _).slots[_]? = _; rw [cl16 hj, arrV_read _ _ hlt, getD_of hu, c_isQ hq]) rfl rfl d kk
theorem okal (d : decode D.2.1 pc = .ok (.arraylength, 1)) : okLen D pc (pc + 1) :=
  fun _ _ _ _ _ _ _ _ _ _ _ _ _ _ _ X ρ cA Dg ws a q0 t el ls st ⟨hx, hb, _⟩ hK hP ht ha kk => va_alen hx hb hK hP q0 t ha (TYs_at ht) rfl d kk
theorem c_a_set {X : eX} {ρ : Nat → Nat} {el : List eV} {j : Nat} {u : eV} (h : j < el.length) (t : Nat) (ht : t ≤ 2) : c_a X ρ t (el.set j u) = (el.length, .inl (upd (fun j => c_I X (el.getD j (0, 0))) j (c_I X u))) := by
  have e : (fun k => c_I X ((el.set j u).getD k (0, 0))) = upd (fun j => c_I X (el.getD j (0, 0))) j (c_I X u) := funext fun k => by
    rw [getD_set h]
    by_cases q : k = j
    · subst q; rw [if_pos rfl, pk_us]
    · rw [if_neg q, pk_un q]
  rw [c_a_i (Or.inl ht), List.length_set, e]
theorem oka_sti (d : decode D.2.1 pc = .ok (.iastore, 1)) : okAst D pc (pc + 1) 0 :=
  fun _ _ _ _ _ _ _ _ _ _ _ _ _ _ _ X ρ cA Dg A H0 ws a q0 j el u ls st ⟨hx, hb, _⟩ hK hP hD hS ha hj hlt hI _ _ kk => by
    rw [c_isI X ρ (hI (by decide))]
    refine va_iast hx hb hK hP hD hS q0 0 ha (TYs_at (by decide)) (vp_in_of_lt hlt hj) d ?_
    rw [cl16 hj, ← c_a_set hlt 0 (by decide)]
    exact kk
theorem oka_stz (d : decode D.2.1 pc = .ok (.bastore, 1)) : okAst D pc (pc + 1) 1 :=
  fun _ _ _ _ _ _ _ _ _ _ _ _ _ _ _ X ρ cA Dg A H0 ws a q0 j el u ls st ⟨hx, hb, _⟩ hK hP hD hS ha hj hlt hI hf _ kk => by
    have e1 := c_isI X ρ (hI (by decide))
    have e2 : vp_nar .boolean (c_I X u) = c_I X u := by
      rcases hf with q | q <;> (rw [e1] at q; injection q with q; rw [q]; decide +kernel)
    rw [e1]
    refine va_zast hx hb hK hP hD hS q0 1 ha (TYs_at (by decide)) (vp_in_of_lt hlt hj) d ?_
    rw [cl16 hj, e2, ← c_a_set hlt 1 (by decide)]
    exact kk
theorem oka_stc (d : decode D.2.1 pc = .ok (.castore, 1)) : okAst D pc (pc + 1) 2 :=
  fun _ _ _ _ _ _ _ _ _ _ _ _ _ _ _ X ρ cA Dg A H0 ws a q0 j el u ls st ⟨hx, hb, _⟩ hK hP hD hS ha hj hlt hI hf _ kk => by
    have e1 := c_isI X ρ (hI (by decide))
    have e2 : vp_nar .char (c_I X u) = c_I X u := by
      obtain ⟨x, q, _, h2⟩ := hf
      rw [e1] at q
      injection q with q
      rw [q]
      unfold vp_nar
      rw [h2]
    rw [e1]
    refine va_cast hx hb hK hP hD hS q0 2 ha (TYs_at (by decide)) (vp_in_of_lt hlt hj) d ?_
    rw [cl16 hj, e2, ← c_a_set hlt 2 (by decide)]
    exact kk
theorem oka_stl (d : decode D.2.1 pc = .ok (.lastore, 1)) : okAst D pc (pc + 1) 3 :=
  fun _ _ _ _ _ _ _ _ _ _ _ _ _ _ _ X ρ cA Dg A H0 ws a q0 j el u ls st ⟨hx, hb, _⟩ hK hP hD hS ha hj hlt _ hf _ kk => by
    obtain ⟨x, q⟩ := hf
    have e1 : c_L u = x := inv_long q
    rw [q]
    refine va_last hx hb hK hP hD hS q0 3 ha (TYs_at (by decide)) (vp_in_of_lt hlt hj) d ?_
    have e2 : c_a X ρ 3 (el.set j u) = (el.length, .inr (.inl (vp_updL (fun j => c_L (el.getD j (5, 0))) j x))) := by
      have e : (fun k => c_L ((el.set j u).getD k (5, 0))) = vp_updL (fun j => c_L (el.getD j (5, 0))) j x := funext fun k => by
        rw [getD_set hlt]
        by_cases q : k = j
        · subst q; rw [if_pos rfl, pk_uLs, e1]
        · rw [if_neg q, pk_uLn q]
      rw [c_a_3, List.length_set, e]
    rw [cl16 hj, ← e2]
    exact kk
theorem oka_stq (d : decode D.2.1 pc = .ok (.aastore, 1)) : okAst D pc (pc + 1) 7 :=
  fun _ _ _ _ _ _ _ _ _ _ _ _ _ _ _ X ρ cA Dg A H0 ws a q0 j el u ls st ⟨hx, hb, _⟩ hK hP hD hS ha hj hlt _ _ h7 kk => by
    obtain ⟨b, C, q, hca, hcell⟩ := h7 rfl
    have e1 : c_R X ρ u = some b := inv_ref q
    rw [q]
    refine vb_astq hx hb hK hP hD hS q0 7 ha (TYs_at (by decide)) hcell (fun comp c0 h1 h2 => vb_asgC hca comp c0 h1 h2) (vp_in_of_lt hlt hj) d ?_
    have e2 : c_a X ρ 7 (el.set j u) = (el.length, .inr (.inr (.inr (.inr (va_up (fun j => c_R X ρ (el.getD j (1, 0))) j (some b)))))) := by
      have e : (fun k => c_R X ρ ((el.set j u).getD k (1, 0))) = va_up (fun j => c_R X ρ (el.getD j (1, 0))) j (some b) := funext fun k => by
        rw [getD_set hlt]
        unfold va_up
        by_cases q : k = j
        · rw [if_pos q, if_pos q, e1]
        · rw [if_neg q, if_neg q]
      rw [c_a_7, List.length_set, e]
    rw [cl16 hj, ← e2]
    exact kk
theorem c_a_rep {X : eX} {ρ : Nat → Nat} {n t : Nat} (ht : t < 6) (cB : ClassId) : vp_cell cB (c_a X ρ t (e_rep (e_dflt t) n)) = arrV cB n (fun _ => defaultValue (e_ty t)) := by
  have e : (e_rep (e_dflt t) n).length = n := e_rep_len _ n
  match t, ht with
  | 0, _ =>
    rw [c_a_i (Or.inl (by decide)), e]
    have e2 : (fun j => c_I X ((e_rep (e_dflt 0) n).getD j (0, 0))) = fun _ => nI 0 := funext fun j => by rw [show e_dflt 0 = (0, 0) from rfl, e_rep_getD (0, 0) n j]; rfl
    rw [e2]
    rfl
  | 1, _ =>
    rw [c_a_i (Or.inl (by decide)), e]
    have e2 : (fun j => c_I X ((e_rep (e_dflt 1) n).getD j (0, 0))) = fun _ => nI 0 := funext fun j => by rw [show e_dflt 1 = (0, 0) from rfl, e_rep_getD (0, 0) n j]; rfl
    rw [e2]
    rfl
  | 2, _ =>
    rw [c_a_i (Or.inl (by decide)), e]
    have e2 : (fun j => c_I X ((e_rep (e_dflt 2) n).getD j (0, 0))) = fun _ => nI 0 := funext fun j => by rw [show e_dflt 2 = (0, 0) from rfl, e_rep_getD (0, 0) n j]; rfl
    rw [e2]
    rfl
  | 3, _ =>
    rw [c_a_3, e]
    have e2 : (fun j => c_L ((e_rep (e_dflt 3) n).getD j (5, 0))) = fun _ => lN 0 := funext fun j => by rw [show e_dflt 3 = (5, 0) from rfl, e_rep_getD (5, 0) n j]; rfl
    rw [e2]
    rfl
  | 4, _ =>
    rw [c_a_4, e]
    have e2 : (fun j => c_D ((e_rep (e_dflt 4) n).getD j (6, 0))) = fun _ => UInt64.ofNat 0 := funext fun j => by rw [show e_dflt 4 = (6, 0) from rfl, e_rep_getD (6, 0) n j]; rfl
    rw [e2]
    rfl
  | 5, _ =>
    rw [c_a_i (Or.inr rfl), e]
    have e2 : (fun j => c_I X ((e_rep (e_dflt 5) n).getD j (0, 0))) = fun _ => nI 0 := funext fun j => by rw [show e_dflt 5 = (0, 0) from rfl, e_rep_getD (0, 0) n j]; rfl
    rw [e2]
    rfl
theorem oka_new {t : Nat} {at_ : ArrayType} (ht : t < 6) (hat : newarray.typeOf at_ = e_ty t) (hw : Cond.arrayClass (e_ty t) ∈ wG) (d : decode D.2.1 pc = .ok (.newarray at_, 2)) : okNewA D pc (pc + 2) t :=
  fun _ _ _ _ _ _ _ _ _ _ _ _ _ _ _ X ρ cA Dg A ws n ls st ⟨hx, hb, _, _, hts, _⟩ hK _ hP hD hS hA hn hc hs kk => by
    have hb9 : n * componentBytes (e_ty t) ≤ 536870912 := by
      have : componentBytes (e_ty t) ≤ 8 := by
        match t, ht with
        | 0, _ => decide
        | 1, _ => decide
        | 2, _ => decide
        | 3, _ => decide
        | 4, _ => decide
        | 5, _ => decide
      have h2 := Nat.mul_le_mul (Nat.le_of_lt hn) this
      omega
    refine va_newa (atype := at_) (ty := e_ty t) (a0 := c_a X ρ t (e_rep (e_dflt t) n)) (N' := n) hx hb (by rw [hat]; exact hts _ hw) hat hK hP hD hS hA (fun cB => c_a_rep ht cB) (nI_pos (by omega)) (cl16 hn) hb9 hc hs d ?_
    intro q cB H1 hK1 hP1 hD1 hS1
    have h8 : (TYs cA ++ [(cB, e_ty t)])[8]? = some (cB, e_ty t) := rfl
    have r1 := (hK1.2 8 _ h8).2
    have r2 := (hK.2 t _ (TYs_at (by omega))).2
    have e9 : cB = cA t := by
      match t, ht, r1, r2 with
      | 0, _, r1, r2 => exact Option.some.inj (r1.symm.trans r2)
      | 1, _, r1, r2 => exact Option.some.inj (r1.symm.trans r2)
      | 2, _, r1, r2 => exact Option.some.inj (r1.symm.trans r2)
      | 3, _, r1, r2 => exact Option.some.inj (r1.symm.trans r2)
      | 4, _, r1, r2 => exact Option.some.inj (r1.symm.trans r2)
      | 5, _, r1, r2 => exact Option.some.inj (r1.symm.trans r2)
    subst e9
    exact kk q H1 hP1 hD1 hS1
theorem oka_newq {idx : Nat} (hl : Cond.classLink D.1.cls idx "java/lang/Object" ∈ wG) (d : decode D.2.1 pc = .ok (.anewarray idx, 3)) : okNewA D pc (pc + 3) 7 :=
  fun _ _ _ _ _ _ _ _ _ _ _ _ _ _ _ X ρ cA Dg A ws n ls st ⟨hx, hb, _, _, hts, ho, _⟩ hK hE hP hD hS hA hn hc hs kk => by
    refine va_newq hx hb ho (hts _ hl) hE.2.1 hK hP hD hS hA (nI_pos (by omega)) (cl16 hn) (by omega) hc hs d ?_
    intro q cB H1 hK1 hP1 hD1 hS1
    have h8 : (TYs cA ++ [(cB, .object "java/lang/Object")])[8]? = some (cB, .object "java/lang/Object") := rfl
    obtain ⟨_, _, _, _, _, r1⟩ := (hK1.2 8 _ h8).2
    obtain ⟨_, _, _, _, _, r2⟩ := (hK.2 7 _ (TYs_at (by decide))).2
    have e9 : cB = cA 7 := Option.some.inj (r1.symm.trans r2)
    subst e9
    have e : c_a X ρ 7 (e_rep (e_dflt 7) n) = (n, .inr (.inr (.inr (.inr (fun _ => none))))) := by
      have e2 : (fun j => c_R X ρ ((e_rep (e_dflt 7) n).getD j (1, 0))) = fun _ => none := funext fun j => by
        rw [show e_dflt 7 = (1, 0) from rfl, e_rep_getD (1, 0) n j]; rfl
      rw [c_a_7, e_rep_len, e2]
    rw [e] at kk
    exact kk q H1 hP1 hD1 hS1
theorem oka_multi {idx : Nat} (hl : Cond.classLink D.1.cls idx "[[I" ∈ wG) (hw : Cond.arrayClass .int ∈ wG) (d : decode D.2.1 pc = .ok (.multianewarray idx 2, 4)) : okMulti D pc (pc + 4) :=
  fun _ _ _ _ s _ _ _ _ _ _ _ _ _ _ X ρ cA Dg A ws n k ls st ⟨hx, hb, _, _, hts, ho, _⟩ hK hE hP hD hS hA hn hk hc hs kk => by
    have r0 : s.vm.findClass ("[" ++ FieldType.int.toString) = some (cA 0) := (hK.2 0 _ (TYs_at (by decide))).2
    have hcy : s.vm.findClass (FieldType.array .int).toString = some (cA 0) := r0
    refine va_mna (X := ws) (L := []) (f := fun _ => .inl (cA 0, c_a X ρ 0 [])) (z := c_a X ρ 0 (e_rep (0, 0) k)) (N' := n) (K' := k) hx hb ho (hts _ hl) hE.2.2.1 (hts _ hw) hcy hK (by rw [show va_pl [] _ = [] from rfl, List.append_nil]; exact hP) (by rw [show va_pl [] _ = [] from rfl, List.append_nil]; exact hD) hS hA (nI_pos (by omega)) (nI_pos (by omega)) (cl16 hn) (cl16 hk) (by omega) (by show k * 4 ≤ _; omega) (by omega) rfl rfl hc hs ?_ d ?_
    · intro cB
      rw [show c_a X ρ 0 (e_rep (0, 0) k) = c_a X ρ 0 (e_rep (e_dflt 0) k) from rfl, c_a_rep (by decide) cB]
      exact arrV_new cB k _
    · intro q r cB H1 hr _ hK1 hP1 hD1 hS1
      have h8 : (TYs cA ++ [(cB, .array .int)])[8]? = some (cB, .array .int) := rfl
      have r1 := (hK1.2 8 _ h8).2
      have r2 := (hK.2 6 _ (TYs_at (by decide))).2
      have e9 : cB = cA 6 := Option.some.inj (r1.symm.trans r2)
      subst e9
      have e3 : va_pl ([] ++ (List.range n).map r) (vr_up (fun _ => .inl (cA 0, c_a X ρ 0 [])) ((List.range n).map r) (.inl (cA 0, c_a X ρ 0 (e_rep (0, 0) k)))) = (List.range n).map (fun i => (r i, .inl (cA 0, c_a X ρ 0 (e_rep (0, 0) k)))) := by
        unfold va_pl
        rw [List.nil_append, List.map_map]
        apply List.map_congr_left
        intro i hi
        show (r i, _) = _
        rw [vr_up_in (List.mem_map_of_mem hi)]
      rw [e3] at hP1 hD1
      exact kk q r H1 hP1 hD1 hS1
end OKAL
