/-! steps that look at the world -/
/-- every class of the worlds can stand in a row of objects -/
theorem nk_mem (i : Nat) {w : Cond} (h : lw_tbl[i]? = some w) (hk : e_nk w = true) : w ∈ wN := List.mem_filter.mpr ⟨List.mem_of_getElem? h, hk⟩
theorem castObj_all : (vwCl.all fun r => decide (Cond.castable r.1 "java/lang/Object" ∈ wN)) = true := by decide +kernel
theorem castObj (ci : Nat) (r : vw_C) (h : vwCl[ci]? = some r) : Cond.castable r.1 "java/lang/Object" ∈ wN := of_decide_eq_true (List.all_eq_true.mp castObj_all r (List.mem_of_getElem? h))
theorem es_74 {G : eG} {a b nx : Nat} {ls : eL} {st : List eV} {h : eH} : e_step G (7, 4, a, b, nx) ls st h = (match st with
        | (2, _) :: rest => some (nx, ls, rest, h, 0, 0, 1, 12 + e_cat rest)
        | _ => none) := rfl
theorem es_8 {G : eG} {i a b nx : Nat} {ls : eL} {st : List eV} {h : eH} : e_step G (8, i, a, b, nx) ls st h = (match st with
      | (0, j) :: v :: rest => match e_arr h v with
        | some (t, l) => bif Nat.beq t i && Nat.blt j 65536 then (match e_get l j with
            | some u => bif e_tyok t u then e_go nx ls (u :: rest) h else none
            | none => none) else none
        | none => none
      | (4, k) :: v :: rest => match e_arr h v with
        | some (t, l) => bif Nat.beq t i then (match e_any G l k with
            | some u => bif e_tyok t u then e_go nx ls (u :: rest) h else none
            | none => none) else none
        | none => none
      | _ => none) := rfl
theorem is_ok {u : eV} : ∀ {x : Option eV}, e_is u x = true → x = some u
  | some (a, b), h => by
    have h : (Nat.beq a u.1 && Nat.beq b u.2) = true := h
    rw [Bool.and_eq_true] at h
    rw [Nat.eq_of_beq_eq_true h.1, Nat.eq_of_beq_eq_true h.2]
  | none, h => by cases h
theorem allat_ok {u : eV} {l : List eV} : ∀ (n j : Nat), e_allat u l j n = true → ∀ i, j ≤ i → i < j + n → l[i]? = some u
  | 0, _, _, i, h1, h2 => by omega
  | n + 1, j, h, i, h1, h2 => by
    have h : (e_is u (e_get l j) && e_allat u l (j + 1) n) = true := h
    rw [Bool.and_eq_true] at h
    by_cases e : i = j
    · subst e
      rw [← e_get_eq]
      exact is_ok h.1
    · exact allat_ok n (j + 1) h.2 i (by omega) (by omega)
theorem bx_nat {x : Int32} {lo hi : Nat} (h1 : 2147483648 ≤ lo) (h2 : hi < 2147549184) (h3 : lo ≤ e_bx x) (h4 : e_bx x ≤ hi) : ∃ j, x = nI j ∧ lo - 2147483648 ≤ j ∧ j < 65536 ∧ j + 2147483648 ≤ hi := by
  have h5 : lo - 2147483648 ≤ x.toBitVec.toNat ∧ x.toBitVec.toNat < 65536 ∧ x.toBitVec.toNat + 2147483648 ≤ hi := by
    have := x.toBitVec.isLt
    unfold e_bx at h3 h4
    omega
  refine ⟨x.toBitVec.toNat, ?_, h5⟩
  apply Int32.toBitVec_inj.mp
  apply BitVec.eq_of_toNat_eq
  rw [nI_nat]
  omega
theorem any_ok {X : eX} {G : eG} (hG : e_ok0 X G) {l : List eV} {k : Nat} {u : eV} (h : e_any G l k = some u) : ∃ j, X.2 k = nI j ∧ j < 65536 ∧ l[j]? = some u := by
  unfold e_any at h
  split at h
  · rename_i lo hi hk
    cases hc : (Nat.ble 2147483648 lo && (Nat.ble lo hi && Nat.blt hi 2147549184))
    · rw [hc] at h; cases h
    · rw [hc, cond_true] at h
      simp only [Bool.and_eq_true] at hc
      obtain ⟨c1, c2, c3⟩ := hc
      have c1 := Nat.le_of_ble_eq_true c1
      have c2 := Nat.le_of_ble_eq_true c2
      have c3 : hi < 2147549184 := Nat.le_of_ble_eq_true c3
      obtain ⟨b1, b2⟩ := hG.1 k lo hi hk
      obtain ⟨j, e1, e2, e3, e4⟩ := bx_nat c1 c3 b1 b2
      split at h
      · rename_i v hv
        cases ha : e_allat v l (lo - 2147483648) (hi + 1 - lo)
        · rw [ha] at h; cases h
        · rw [ha] at h
          cases h
          exact ⟨j, e1, e3, allat_ok _ _ ha j e2 (by omega)⟩
      · cases h
  · cases h
theorem es_9 {G : eG} {i a b nx : Nat} {ls : eL} {st : List eV} {h : eH} : e_step G (9, i, a, b, nx) ls st h = (match st with
      | u :: (2, r) :: rest => match e_get h r with
        | some (0, c, fs) => bif Nat.beq c a && (Nat.blt b fs.length && e_fit G i u) then e_go nx ls rest (h.set r (0, c, fs.set b u)) else none
        | _ => none
      | _ => none) := by simp only [← e_set_eq]; rfl
theorem es_10 {G : eG} {i a b nx : Nat} {ls : eL} {st : List eV} {h : eH} : e_step G (10, i, a, b, nx) ls st h = (match st with
      | u :: (0, j) :: (2, r) :: rest => match e_get h r with
        | some (1, t, l) => bif Nat.beq t i && (Nat.blt j 65536 && (Nat.blt j l.length && (e_fit G i u && e_obj h i u))) then e_go nx ls rest (h.set r (1, t, l.set j u)) else none
        | _ => none
      | _ => none) := by simp only [← e_set_eq]; rfl
theorem fit_1 {G : eG} {u : eV} : e_fit G 1 u = (match u with
    | (0, n) => Nat.blt n 2
    | _ => false) := rfl
theorem fit_2 {G : eG} {u : eV} : e_fit G 2 u = (match e_rng G u with
    | some (lo, hi) => Nat.ble 2147483648 lo && Nat.blt hi 2147549184
    | none => false) := rfl
theorem obj_7 {h : eH} {u : eV} : e_obj h 7 u = (match e_cls h u with
            | some _ => true
            | none => false) := rfl
theorem ok_15 {D : eD} {pc i a b nx : Nat} : e_ok D pc (15, i, a, b, nx) = (bif Nat.blt i 5 then okLbin D pc nx i else (match i with
      | 5 => okI2l D pc nx
      | 6 => okRw D pc nx [.int (nI 0)] [.float (UInt32.ofNat 0)]
      | 7 => okRw D pc nx [.float (UInt32.ofNat 1114636288), .float (UInt32.ofNat 0)] [.float (UInt32.ofNat 0)]
      | 8 => okRw D pc nx [.float (UInt32.ofNat 0)] [.double (UInt64.ofNat 0)]
      | 9 => okRw D pc nx [.double (UInt64.ofNat 0), .double (UInt64.ofNat 0)] [.int (nI 0)]
      | _ => True)) := rfl
section STEPW
variable {D : eD} {p : Program} {l : Launch} {e : Env} {R : Room} {s : State} {m : MethodId} {args : Array Value} {below : List Frame} {meth : Method} {c : Code} {X : eX} {cA : Nat → ClassId} {Dg : va_G} {A : Nat → Prop} {Q : State → Prop} {G : eG}
variable {i a b nx pc : Nat} {ls : eL} {st : List eV} {h : eH} {cells slots : Nat} {ρ : Nat → Nat} {H : Heap} {locs : List Loc}
theorem cw_at {q : Nat} {k : eC} (hg : e_get h q = some k) : (c_w X cA ρ 0 h)[q]? = some (ρ q, c_c X cA ρ k) := by
  rw [cw_get, hg, Nat.zero_add]
  rfl
theorem beqE {x y : Nat} (h : Nat.beq x y = true) : x = y := Nat.eq_of_beq_eq_true h
theorem e_cls_ok {v : eV} {ci : Nat} (hK : va_K Dg vwCl (TYs cA) s) (hE : eE X A s) (hS : va_S A s.heap H locs) (hP : va_P Dg vwCl (c_w X cA ρ 0 h) H) (hc : e_cls h v = some ci) : ∃ (y : Nat) (r : vw_C), c_v X ρ v = .ref y ∧ vwCl[ci]? = some r ∧ ∃ cell : Cell, H[y]? = some cell ∧ cell.vm.isStatics = false ∧ s.vm.findClass r.1 = some cell.cls := by
  unfold e_cls at hc
  split at hc
  · rename_i q
    split at hc
    · rename_i c9 fs hg
      cases hc
      have hat := cw_at (X := X) (cA := cA) (ρ := ρ) hg
      obtain ⟨r, hr, -⟩ := hP q _ hat
      exact ⟨ρ q, r, rfl, hr, va_recv hK hP hr hat⟩
    · cases hc
  · rename_i x
    split at hc
    · rename_i c9 fs hx
      cases hc
      rcases xf_cases hx with ⟨rfl, rfl, _⟩ | ⟨k, hk, rfl, rfl, _⟩
      · exact ⟨X.1 5, _, rfl, rfl, va_Orecv hE.2.2.2.2.2.2.2.2.2.2.2.2.2.2.2.2.2.1 hS⟩
      · exact ⟨X.1 (100 + k), _, rfl, rfl, va_Orecv (hE.2.2.2.2.2.2.2.2.2.2.2.2.2.1.1 k hk) hS⟩
    · cases hc
  · cases hc
theorem e_same_ok {x y : eV} {z : Bool} (hE : eE X A s) (hP : va_P Dg vwCl (c_w X cA ρ 0 h) H) (hD : va_D A (c_w X cA ρ 0 h)) (hx : e_okV h.length x) (hy : e_okV h.length y) (hz : e_same x y = some z) : ∃ u v : Nat, c_v X ρ x = .ref u ∧ c_v X ρ y = .ref v ∧ (z = true ↔ u = v) := by
  have at' : ∀ q, q < h.length → ∃ k, (c_w X cA ρ 0 h)[q]? = some (ρ q, c_c X cA ρ k) := fun q hq => by
    obtain ⟨k, hk⟩ : ∃ k, e_get h q = some k := ⟨h[q], by rw [e_get_eq]; exact List.getElem?_eq_getElem hq⟩
    exact ⟨k, cw_at hk⟩
  have n0 : ¬ A (X.1 0) := by
    obtain ⟨_, _, _, _, _, _, _, h9⟩ := hE.2.2.2.2.2.2.2.2.2.2.2.1
    exact h9
  unfold e_same at hz
  split at hz
  · rename_i a b
    cases hz
    refine ⟨ρ a, ρ b, rfl, rfl, ?_⟩
    obtain ⟨k1, e1⟩ := at' a (hx rfl)
    obtain ⟨k2, e2⟩ := at' b (hy rfl)
    constructor
    · intro q; rw [beqE q]
    · intro q
      have := hD.1 a b _ _ e1 e2 q
      subst this
      exact Nat.beq_refl a
  · rename_i a b
    cases hc : Nat.beq a b
    · rw [hc] at hz; cases hz
    · rw [hc] at hz
      cases hz
      have := beqE hc
      subst this
      exact ⟨X.1 a, X.1 a, rfl, rfl, fun _ => rfl, fun _ => rfl⟩
  · rename_i a
    cases hz
    obtain ⟨k1, e1⟩ := at' a (hx rfl)
    refine ⟨ρ a, X.1 0, rfl, rfl, ⟨fun q => (by cases q), fun q => ?_⟩⟩
    have h9 : A (ρ a) := hD.2 a _ e1
    rw [q] at h9
    exact absurd h9 n0
  · rename_i a
    cases hz
    obtain ⟨k1, e1⟩ := at' a (hy rfl)
    refine ⟨X.1 0, ρ a, rfl, rfl, ⟨fun q => (by cases q), fun q => ?_⟩⟩
    have h9 : A (ρ a) := hD.2 a _ e1
    rw [← q] at h9
    exact absurd h9 n0
  · cases hz
theorem e_arr_ok {v : eV} {t : Nat} {el : List eV} (ha : e_arr h v = some (t, el)) : (∃ q, v = (2, q) ∧ e_get h q = some (1, t, el)) ∨ ∃ x, v = (3, x) ∧ pg_xa x = some (t, el) := by
  unfold e_arr at ha
  split at ha
  · rename_i q
    split at ha
    · rename_i t9 l9 hg
      cases ha
      exact Or.inl ⟨q, rfl, hg⟩
    · cases ha
  · rename_i x
    exact Or.inr ⟨x, rfl, ha⟩
  · cases ha
theorem step_70 (hF : eFix p s m args meth c D X cA Dg A) (hok : e_ok D pc (7, 0, a, b, nx)) {r : eS} (hs : e_step G (7, 0, a, b, nx) ls st h = some r) (hw : e_okS h.length st) (hwl : e_okLs h.length ls) (hwh : e_okH h.length h) (hRc : cells + r.2.2.2.2.1 ≤ R.cells) (hRs : slots + r.2.2.2.2.2.1 ≤ R.slots) (hRf : r.2.2.2.2.2.2.1 ≤ R.frames) (hRw : r.2.2.2.2.2.2.2 ≤ R.locals) (kk : eNext D p l e R s m args below meth c X cA Dg A Q ρ h.length r cells slots) : eGo D p l e R s m args below meth c X cA Dg A Q pc ls st h cells slots ρ H locs := by
  intro la hl hP hD hS
  match st, hs with
  | [], hs => cases hs
  | v :: rest, hs =>
    have hs : (match e_fld h v a b with
          | some u => e_go nx ls (u :: rest) h
          | none => none) = some r := hs
    cases hu : e_fld h v a b with
    | none => rw [hu] at hs; cases hs
    | some u =>
      rw [hu] at hs
      cases hs
      have k2 := kk ρ H locs (fun _ _ => rfl) la hl hP hD hS
      unfold e_fld at hu
      split at hu
      · rename_i q
        split at hu
        · rename_i c9 fs hg
          cases hc : Nat.beq c9 a
          · rw [hc] at hu; cases hu
          · rw [hc] at hu
            have := beqE hc
            subst this
            have hu : e_get fs b = some u := hu
            rw [e_get_eq] at hu
            exact hok.1 _ _ _ _ _ _ _ _ _ _ _ _ _ _ _ cA Dg (c_w X cA ρ 0 h) (ρ q) q (fs.map (c_v X ρ)) (c_v X ρ u) la _ hF.1 hF.2.1 hP (cw_at hg) (by rw [List.getElem?_map, hu]; rfl) k2
        · cases hu
      · rename_i x
        split at hu
        · rename_i c9 fs hx
          cases hc : Nat.beq c9 a
          · rw [hc] at hu; cases hu
          · rw [hc] at hu
            have := beqE hc
            subst this
            exact hok.2 _ _ _ _ _ _ _ _ _ _ _ _ _ _ _ X A ρ x fs u la _ hF.1 hF.2.2.2 hS hx hu k2
        · cases hu
      · cases hu
theorem step_71 (hF : eFix p s m args meth c D X cA Dg A) (hok : e_ok D pc (7, 1, a, b, nx)) {r : eS} (hs : e_step G (7, 1, a, b, nx) ls st h = some r) (hw : e_okS h.length st) (hwl : e_okLs h.length ls) (hwh : e_okH h.length h) (hRc : cells + r.2.2.2.2.1 ≤ R.cells) (hRs : slots + r.2.2.2.2.2.1 ≤ R.slots) (hRf : r.2.2.2.2.2.2.1 ≤ R.frames) (hRw : r.2.2.2.2.2.2.2 ≤ R.locals) (kk : eNext D p l e R s m args below meth c X cA Dg A Q ρ h.length r cells slots) : eGo D p l e R s m args below meth c X cA Dg A Q pc ls st h cells slots ρ H locs := by
  intro la hl hP hD hS
  cases hs
  have hcs : ∀ ρ' : Nat → Nat, (∀ k, k < h.length → ρ' k = ρ k) → (pg_def a).map (c_v X ρ') = (pg_def a).map (c_v X ρ) := fun ρ' h9 => c_st_congr (n := h.length) (fun v hv q => absurd q (hok.2 v hv)) h9
  refine hok.1 X ρ _ _ _ _ _ _ _ _ _ _ _ _ _ _ _ cA Dg A s.heap (c_w X cA ρ 0 h) la _ hF.1 hF.2.1 hP hD hS hF.2.2.1 hRc hRs (fun q H1 hP1 hD1 hS1 => ?_)
  have hρ : ∀ k, k < h.length → e_ext ρ h.length q k = ρ k := fun k hk => e_ext_lt hk
  have e1 : c_w X cA ρ 0 h ++ [(q, .inr (a, (pg_def a).map (c_v X ρ)))] = c_w X cA (e_ext ρ h.length q) 0 (h ++ [(0, a, pg_def a)]) := by
    rw [cw_new hwh, ← hcs _ hρ]
    rfl
  rw [e1] at hP1 hD1
  have k2 := kk (e_ext ρ h.length q) H1 locs hρ la (by rw [c_ls_congr hwl hρ]; exact hl) hP1 hD1 hS1
  have e2 : ((2, h.length) :: st : List eV).map (c_v X (e_ext ρ h.length q)) = .ref q :: st.map (c_v X ρ) := by
    rw [List.map_cons, c_st_congr hw hρ]
    show Value.ref (e_ext ρ h.length q h.length) :: _ = _
    rw [e_ext_at]
  exact e2 ▸ k2
theorem step_72 (hF : eFix p s m args meth c D X cA Dg A) (hok : e_ok D pc (7, 2, a, b, nx)) {r : eS} (hs : e_step G (7, 2, a, b, nx) ls st h = some r) (hw : e_okS h.length st) (hwl : e_okLs h.length ls) (hwh : e_okH h.length h) (hRc : cells + r.2.2.2.2.1 ≤ R.cells) (hRs : slots + r.2.2.2.2.2.1 ≤ R.slots) (hRf : r.2.2.2.2.2.2.1 ≤ R.frames) (hRw : r.2.2.2.2.2.2.2 ≤ R.locals) (kk : eNext D p l e R s m args below meth c X cA Dg A Q ρ h.length r cells slots) : eGo D p l e R s m args below meth c X cA Dg A Q pc ls st h cells slots ρ H locs := by
  intro la hl hP hD hS
  match st, hs with
  | [], hs => cases hs
  | v :: rest, hs =>
    have hs : (match e_cls h v with
          | some c => bif Nat.beq c a then e_go nx ls (v :: rest) h else none
          | none => none) = some r := hs
    cases hu : e_cls h v with
    | none => rw [hu] at hs; cases hs
    | some ci =>
      rw [hu] at hs
      have hs : (bif Nat.beq ci a then e_go nx ls (v :: rest) h else none) = some r := hs
      cases hc : Nat.beq ci a
      · rw [hc] at hs; cases hs
      · rw [hc] at hs
        cases hs
        have := beqE hc
        subst this
        obtain ⟨y, r9, e1, e2, e3⟩ := e_cls_ok hF.2.1 hF.2.2.2 hS hP hu
        have k2 : W p l e R s m args below meth c H locs cells slots Q (F0 m nx la (c_v X ρ v :: rest.map (c_v X ρ))) := kk ρ H locs (fun _ _ => rfl) la hl hP hD hS
        show W p l e R s m args below meth c H locs cells slots Q (F0 m pc la (c_v X ρ v :: rest.map (c_v X ρ)))
        rw [e1] at k2 ⊢
        exact hok _ _ _ _ _ _ _ _ _ _ _ _ _ _ _ cA Dg y r9 la _ hF.1 hF.2.1 e2 e3 k2
theorem step_73 (hF : eFix p s m args meth c D X cA Dg A) (hok : e_ok D pc (7, 3, a, b, nx)) {r : eS} (hs : e_step G (7, 3, a, b, nx) ls st h = some r) (hw : e_okS h.length st) (hwl : e_okLs h.length ls) (hwh : e_okH h.length h) (hRc : cells + r.2.2.2.2.1 ≤ R.cells) (hRs : slots + r.2.2.2.2.2.1 ≤ R.slots) (hRf : r.2.2.2.2.2.2.1 ≤ R.frames) (hRw : r.2.2.2.2.2.2.2 ≤ R.locals) (kk : eNext D p l e R s m args below meth c X cA Dg A Q ρ h.length r cells slots) : eGo D p l e R s m args below meth c X cA Dg A Q pc ls st h cells slots ρ H locs := by
  intro la hl hP hD hS
  match st, hs with
  | [], hs => cases hs
  | v :: rest, hs =>
    have hs : (match e_arr h v with
          | some (t, l) => bif Nat.blt t 8 then e_go nx ls ((0, l.length) :: rest) h else none
          | none => none) = some r := hs
    cases hu : e_arr h v with
    | none => rw [hu] at hs; cases hs
    | some z =>
      obtain ⟨t, el⟩ := z
      rw [hu] at hs
      have hs : (bif Nat.blt t 8 then e_go nx ls ((0, el.length) :: rest) h else none) = some r := hs
      cases hc : Nat.blt t 8
      · rw [hc] at hs; cases hs
      · rw [hc] at hs
        cases hs
        have k2 := kk ρ H locs (fun _ _ => rfl) la hl hP hD hS
        rcases e_arr_ok hu with ⟨q, rfl, hg⟩ | ⟨x, rfl, hx⟩
        · exact hok.1 _ _ _ _ _ _ _ _ _ _ _ _ _ _ _ X ρ cA Dg (c_w X cA ρ 0 h) (ρ q) q t el la _ hF.1 hF.2.1 hP (Nat.le_of_ble_eq_true hc) (cw_at hg) k2
        · exact hok.2 _ _ _ _ _ _ _ _ _ _ _ _ _ _ _ X A x t el la _ hF.1 hF.2.2.2 hS hx k2
theorem step_74 (hF : eFix p s m args meth c D X cA Dg A) (hok : e_ok D pc (7, 4, a, b, nx)) {r : eS} (hs : e_step G (7, 4, a, b, nx) ls st h = some r) (hw : e_okS h.length st) (hwl : e_okLs h.length ls) (hwh : e_okH h.length h) (hRc : cells + r.2.2.2.2.1 ≤ R.cells) (hRs : slots + r.2.2.2.2.2.1 ≤ R.slots) (hRf : r.2.2.2.2.2.2.1 ≤ R.frames) (hRw : r.2.2.2.2.2.2.2 ≤ R.locals) (kk : eNext D p l e R s m args below meth c X cA Dg A Q ρ h.length r cells slots) : eGo D p l e R s m args below meth c X cA Dg A Q pc ls st h cells slots ρ H locs := by
  intro la hl hP hD hS
  rw [es_74] at hs
  split at hs
  · rename_i q rest
    cases hs
    exact hok _ _ _ _ _ _ _ _ _ _ _ _ _ _ _ (ρ q) la _ hF.1 (hl.1.trans hF.1.2.2.1.symm) hRf (by rw [c_cats]; exact hRw) (kk ρ H locs (fun _ _ => rfl) la hl hP hD hS)
  · cases hs
theorem step_75 (hF : eFix p s m args meth c D X cA Dg A) (hok : e_ok D pc (7, 5, a, b, nx)) {r : eS} (hs : e_step G (7, 5, a, b, nx) ls st h = some r) (hw : e_okS h.length st) (hwl : e_okLs h.length ls) (hwh : e_okH h.length h) (hRc : cells + r.2.2.2.2.1 ≤ R.cells) (hRs : slots + r.2.2.2.2.2.1 ≤ R.slots) (hRf : r.2.2.2.2.2.2.1 ≤ R.frames) (hRw : r.2.2.2.2.2.2.2 ≤ R.locals) (kk : eNext D p l e R s m args below meth c X cA Dg A Q ρ h.length r cells slots) : eGo D p l e R s m args below meth c X cA Dg A Q pc ls st h cells slots ρ H locs := by
  intro la hl hP hD hS
  match st, hs with
  | [], hs => cases hs
  | [_], hs => cases hs
  | y :: x :: rest, hs =>
    have hs : (bif e_isR x && e_isR y then (match e_same x y with
            | some c => e_go (bif c then a else nx) ls rest h
            | none => none) else none) = some r := hs
    cases hq : (e_isR x && e_isR y)
    · rw [hq] at hs; cases hs
    · rw [hq] at hs
      have hs : (match e_same x y with
            | some c => e_go (bif c then a else nx) ls rest h
            | none => none) = some r := hs
      cases hz : e_same x y with
      | none => rw [hz] at hs; cases hs
      | some z =>
        rw [hz] at hs
        cases hs
        obtain ⟨u, v, e1, e2, e3⟩ := e_same_ok hF.2.2.2 hP hD (hw x (List.mem_cons_of_mem _ List.mem_cons_self)) (hw y List.mem_cons_self) hz
        have k2 : W p l e R s m args below meth c H locs cells slots Q (F0 m (bif z then a else nx) la (rest.map (c_v X ρ))) := kk ρ H locs (fun _ _ => rfl) la hl hP hD hS
        show W p l e R s m args below meth c H locs cells slots Q (F0 m pc la (c_v X ρ y :: c_v X ρ x :: rest.map (c_v X ρ)))
        rw [e1, e2]
        refine hok la _ (some u) (some v) _ _ _ _ _ _ _ _ _ _ _ _ _ _ _ hF.1 (fun q => ?_) (fun q => ?_)
        · rw [e3.mpr (Option.some.inj q)] at k2; exact k2
        · have : z = false := by
            cases z
            · rfl
            · exact absurd (congrArg some (e3.mp rfl)) q
          rw [this] at k2; exact k2
theorem step_76 (hF : eFix p s m args meth c D X cA Dg A) (hok : e_ok D pc (7, 6, a, b, nx)) {r : eS} (hs : e_step G (7, 6, a, b, nx) ls st h = some r) (hw : e_okS h.length st) (hwl : e_okLs h.length ls) (hwh : e_okH h.length h) (hRc : cells + r.2.2.2.2.1 ≤ R.cells) (hRs : slots + r.2.2.2.2.2.1 ≤ R.slots) (hRf : r.2.2.2.2.2.2.1 ≤ R.frames) (hRw : r.2.2.2.2.2.2.2 ≤ R.locals) (kk : eNext D p l e R s m args below meth c X cA Dg A Q ρ h.length r cells slots) : eGo D p l e R s m args below meth c X cA Dg A Q pc ls st h cells slots ρ H locs := by
  intro la hl hP hD hS
  match st, hs with
  | [], hs => cases hs
  | [_], hs => cases hs
  | y :: x :: rest, hs =>
    have hs : (bif e_isR x && e_isR y then (match e_same x y with
            | some c => e_go (bif c then nx else a) ls rest h
            | none => none) else none) = some r := hs
    cases hq : (e_isR x && e_isR y)
    · rw [hq] at hs; cases hs
    · rw [hq] at hs
      have hs : (match e_same x y with
            | some c => e_go (bif c then nx else a) ls rest h
            | none => none) = some r := hs
      cases hz : e_same x y with
      | none => rw [hz] at hs; cases hs
      | some z =>
        rw [hz] at hs
        cases hs
        obtain ⟨u, v, e1, e2, e3⟩ := e_same_ok hF.2.2.2 hP hD (hw x (List.mem_cons_of_mem _ List.mem_cons_self)) (hw y List.mem_cons_self) hz
        have k2 : W p l e R s m args below meth c H locs cells slots Q (F0 m (bif z then nx else a) la (rest.map (c_v X ρ))) := kk ρ H locs (fun _ _ => rfl) la hl hP hD hS
        show W p l e R s m args below meth c H locs cells slots Q (F0 m pc la (c_v X ρ y :: c_v X ρ x :: rest.map (c_v X ρ)))
        rw [e1, e2]
        refine hok la _ (some u) (some v) _ _ _ _ _ _ _ _ _ _ _ _ _ _ _ hF.1 (fun q => ?_) (fun q => ?_)
        · rw [e3.mpr (Option.some.inj q)] at k2; exact k2
        · have : z = false := by
            cases z
            · rfl
            · exact absurd (congrArg some (e3.mp rfl)) q
          rw [this] at k2; exact k2
theorem step_8 (hG : e_ok0 X G) (hF : eFix p s m args meth c D X cA Dg A) (hok : e_ok D pc (8, i, a, b, nx)) {r : eS} (hs : e_step G (8, i, a, b, nx) ls st h = some r) (hw : e_okS h.length st) (hwl : e_okLs h.length ls) (hwh : e_okH h.length h) (hRc : cells + r.2.2.2.2.1 ≤ R.cells) (hRs : slots + r.2.2.2.2.2.1 ≤ R.slots) (hRf : r.2.2.2.2.2.2.1 ≤ R.frames) (hRw : r.2.2.2.2.2.2.2 ≤ R.locals) (kk : eNext D p l e R s m args below meth c X cA Dg A Q ρ h.length r cells slots) : eGo D p l e R s m args below meth c X cA Dg A Q pc ls st h cells slots ρ H locs := by
  intro la hl hP hD hS
  rw [es_8] at hs
  split at hs
  · rename_i j v rest
    cases hu : e_arr h v with
    | none => rw [hu] at hs; cases hs
    | some z =>
      obtain ⟨t, el⟩ := z
      rw [hu] at hs
      have hs2 : (bif Nat.beq t i && Nat.blt j 65536 then (match e_get el j with
            | some u => bif e_tyok t u then e_go nx ls (u :: rest) h else none
            | none => none) else none) = some r := hs
      clear hs
      cases hc : (Nat.beq t i && Nat.blt j 65536)
      · rw [hc] at hs2; cases hs2
      · rw [hc, cond_true] at hs2
        simp only [Bool.and_eq_true] at hc
        have e9 := beqE hc.1
        have hj : j < 65536 := Nat.le_of_ble_eq_true hc.2
        cases hg2 : e_get el j with
        | none => rw [hg2] at hs2; cases hs2
        | some u =>
          rw [hg2] at hs2
          have hs3 : (bif e_tyok t u then e_go nx ls (u :: rest) h else none) = some r := hs2
          clear hs2
          cases ht : e_tyok t u
          · rw [ht] at hs3; cases hs3
          · rw [ht] at hs3
            cases hs3
            subst e9
            rw [e_get_eq] at hg2
            have k2 := kk ρ H locs (fun _ _ => rfl) la hl hP hD hS
            rcases e_arr_ok hu with ⟨q, rfl, hg⟩ | ⟨x, rfl, hx⟩
            · exact hok.1 _ _ _ _ _ _ _ _ _ _ _ _ _ _ _ X ρ cA Dg (c_w X cA ρ 0 h) (ρ q) q j el u la _ hF.1 hF.2.1 hP (cw_at hg) hj hg2 ht k2
            · exact hok.2 _ _ _ _ _ _ _ _ _ _ _ _ _ _ _ X ρ A x j el u la _ hF.1 hF.2.2.2 hS hx hj hg2 k2
  · rename_i k v rest
    cases hu : e_arr h v with
    | none => rw [hu] at hs; cases hs
    | some z =>
      obtain ⟨t, el⟩ := z
      rw [hu] at hs
      have hs2 : (bif Nat.beq t i then (match e_any G el k with
            | some u => bif e_tyok t u then e_go nx ls (u :: rest) h else none
            | none => none) else none) = some r := hs
      clear hs
      cases hc : Nat.beq t i
      · rw [hc] at hs2; cases hs2
      · rw [hc, cond_true] at hs2
        have e9 := beqE hc
        cases hg2 : e_any G el k with
        | none => rw [hg2] at hs2; cases hs2
        | some u =>
          rw [hg2] at hs2
          have hs3 : (bif e_tyok t u then e_go nx ls (u :: rest) h else none) = some r := hs2
          clear hs2
          cases ht : e_tyok t u
          · rw [ht] at hs3; cases hs3
          · rw [ht] at hs3
            cases hs3
            subst e9
            obtain ⟨j, e1, hj, hg3⟩ := any_ok hG hg2
            have k2 := kk ρ H locs (fun _ _ => rfl) la hl hP hD hS
            show W p l e R s m args below meth c H locs cells slots Q (F0 m pc la (.int (X.2 k) :: (v :: rest).map (c_v X ρ)))
            rw [e1]
            rcases e_arr_ok hu with ⟨q, rfl, hg⟩ | ⟨x, rfl, hx⟩
            · exact hok.1 _ _ _ _ _ _ _ _ _ _ _ _ _ _ _ X ρ cA Dg (c_w X cA ρ 0 h) (ρ q) q j el u la _ hF.1 hF.2.1 hP (cw_at hg) hj hg3 ht k2
            · exact hok.2 _ _ _ _ _ _ _ _ _ _ _ _ _ _ _ X ρ A x j el u la _ hF.1 hF.2.2.2 hS hx hj hg3 k2
  · cases hs
theorem char_fit {x : Int32} {lo hi : Nat} (h1 : 2147483648 ≤ lo) (h2 : hi < 2147549184) (h3 : lo ≤ e_bx x) (h4 : e_bx x ≤ hi) : fits .char (.int x) = true ∧ narrow .char (.int x) = .int x := by
  have h5 : x.toBitVec.toNat < 65536 := by
    have := x.toBitVec.isLt
    unfold e_bx at h3 h4
    omega
  have e1 : x = nI x.toBitVec.toNat := by
    apply Int32.toBitVec_inj.mp
    apply BitVec.eq_of_toNat_eq
    rw [nI_nat]
    omega
  have h6 := pk_charN h5
  rw [← e1] at h6
  exact ⟨h6.2, h6.1⟩
theorem fit_ok (hG : e_ok0 X G) (ρ : Nat → Nat) {t : Nat} {u : eV} (h : e_fit G t u = true) : fitV t (c_v X ρ u) ∧ (t ≤ 2 → e_isI u = true) := by
  match t, h with
  | 0, h => exact ⟨⟨_, c_isI X ρ h⟩, fun _ => h⟩
  | 1, h =>
    obtain ⟨t, n⟩ := u
    match t, h with
    | 0, h =>
      have hn : n < 2 := Nat.le_of_ble_eq_true h
      match n, hn with
      | 0, _ => exact ⟨Or.inl rfl, fun _ => rfl⟩
      | 1, _ => exact ⟨Or.inr rfl, fun _ => rfl⟩
    | t + 1, h => cases h
  | 2, h =>
    rw [fit_2] at h
    split at h
    · rename_i lo hi hr
      simp only [Bool.and_eq_true] at h
      obtain ⟨i1, l1, u1⟩ := e_rng_ok hG hr
      obtain ⟨f1, f2⟩ := char_fit (Nat.le_of_ble_eq_true h.1) (Nat.le_of_ble_eq_true h.2) l1 u1
      exact ⟨⟨_, c_isI X ρ i1, f1, f2⟩, fun _ => i1⟩
    · cases h
  | 3, h => exact ⟨⟨_, c_isLong h⟩, fun q => by omega⟩
  | 4, h => exact ⟨⟨_, c_isDouble h⟩, fun q => by omega⟩
  | 5, h => cases h
  | 6, h => cases h
  | 7, h =>
    refine ⟨?_, fun q => by omega⟩
    obtain ⟨t, n⟩ := u
    have h : e_isQ (t, n) = true := h
    simp only [e_isQ, e_isR, Bool.or_eq_true] at h
    rcases h with h | h | h <;> (have := beqE h; subst this)
    · exact Or.inl rfl
    · exact Or.inr ⟨_, rfl⟩
    · exact Or.inr ⟨_, rfl⟩
  | t + 8, h => cases h
theorem step_9 (hG : e_ok0 X G) (hF : eFix p s m args meth c D X cA Dg A) (hok : e_ok D pc (9, i, a, b, nx)) {r : eS} (hs : e_step G (9, i, a, b, nx) ls st h = some r) (hw : e_okS h.length st) (hwl : e_okLs h.length ls) (hwh : e_okH h.length h) (hRc : cells + r.2.2.2.2.1 ≤ R.cells) (hRs : slots + r.2.2.2.2.2.1 ≤ R.slots) (hRf : r.2.2.2.2.2.2.1 ≤ R.frames) (hRw : r.2.2.2.2.2.2.2 ≤ R.locals) (kk : eNext D p l e R s m args below meth c X cA Dg A Q ρ h.length r cells slots) : eGo D p l e R s m args below meth c X cA Dg A Q pc ls st h cells slots ρ H locs := by
  intro la hl hP hD hS
  rw [es_9] at hs
  split at hs
  · rename_i u q rest
    split at hs
    · rename_i c9 fs hg
      cases hc : (Nat.beq c9 a && (Nat.blt b fs.length && e_fit G i u))
      · rw [hc] at hs; cases hs
      · rw [hc] at hs
        simp only [Bool.and_eq_true] at hc
        have := beqE hc.1
        subst this
        cases hs
        refine hok _ _ _ _ _ _ _ _ _ _ _ _ _ _ _ cA Dg A s.heap (c_w X cA ρ 0 h) (ρ q) q (fs.map (c_v X ρ)) (c_v X ρ u) la _ hF.1 hF.2.1 hP hD hS (cw_at hg) (by rw [List.length_map]; exact Nat.le_of_ble_eq_true hc.2.1) (fit_ok hG ρ hc.2.2).1 (fun H1 locs1 hP1 hD1 hS1 => ?_)
        have e1 : (c_w X cA ρ 0 h).set q (ρ q, .inr (c9, (fs.map (c_v X ρ)).set b (c_v X ρ u))) = c_w X cA ρ 0 (h.set q (0, c9, fs.set b u)) := by
          rw [← cw_set, Nat.zero_add]
          show _ = (c_w X cA ρ 0 h).set q (ρ q, .inr (c9, (fs.set b u).map (c_v X ρ)))
          rw [List.map_set]
        rw [e1] at hP1 hD1
        exact kk ρ H1 locs1 (fun _ _ => rfl) la hl hP1 hD1 hS1
    · cases hs
  · cases hs
theorem step_10 (hG : e_ok0 X G) (hF : eFix p s m args meth c D X cA Dg A) (hok : e_ok D pc (10, i, a, b, nx)) {r : eS} (hs : e_step G (10, i, a, b, nx) ls st h = some r) (hw : e_okS h.length st) (hwl : e_okLs h.length ls) (hwh : e_okH h.length h) (hRc : cells + r.2.2.2.2.1 ≤ R.cells) (hRs : slots + r.2.2.2.2.2.1 ≤ R.slots) (hRf : r.2.2.2.2.2.2.1 ≤ R.frames) (hRw : r.2.2.2.2.2.2.2 ≤ R.locals) (kk : eNext D p l e R s m args below meth c X cA Dg A Q ρ h.length r cells slots) : eGo D p l e R s m args below meth c X cA Dg A Q pc ls st h cells slots ρ H locs := by
  intro la hl hP hD hS
  rw [es_10] at hs
  split at hs
  · rename_i u j q rest
    split at hs
    · rename_i t el hg
      cases hc : (Nat.beq t i && (Nat.blt j 65536 && (Nat.blt j el.length && (e_fit G i u && e_obj h i u))))
      · rw [hc] at hs; cases hs
      · rw [hc] at hs
        simp only [Bool.and_eq_true] at hc
        have := beqE hc.1
        subst this
        cases hs
        have hlt : j < el.length := Nat.le_of_ble_eq_true hc.2.2.1
        obtain ⟨f1, f2⟩ := fit_ok hG ρ hc.2.2.2.1
        refine hok _ _ _ _ _ _ _ _ _ _ _ _ _ _ _ X ρ cA Dg A s.heap (c_w X cA ρ 0 h) (ρ q) q j el u la _ hF.1 hF.2.1 hP hD hS (cw_at hg) (Nat.le_of_ble_eq_true hc.2.1) hlt f2 f1 (fun e7 => ?_) (fun H1 locs1 hP1 hD1 hS1 => ?_)
        · subst e7
          have ho := hc.2.2.2.2
          rw [obj_7] at ho
          split at ho
          · rename_i ci hci
            obtain ⟨y, r9, e1, e2, e3⟩ := e_cls_ok hF.2.1 hF.2.2.2 hS hP hci
            refine ⟨y, r9.1, e1, ?_, e3⟩
            exact hF.1.2.2.2.2.2.2.2.2.1 _ (castObj ci r9 e2)
          · cases ho
        · have e1 : (c_w X cA ρ 0 h).set q (ρ q, .inl (cA t, c_a X ρ t (el.set j u))) = c_w X cA ρ 0 (h.set q (1, t, el.set j u)) := by
            rw [← cw_set, Nat.zero_add]
            rfl
          rw [e1] at hP1 hD1
          exact kk ρ H1 locs1 (fun _ _ => rfl) la hl hP1 hD1 hS1
    · cases hs
  · cases hs
theorem es_15 {G : eG} {i a b nx : Nat} {ls : eL} {st : List eV} {h : eH} : e_step G (15, i, a, b, nx) ls st h = (bif Nat.blt i 5 then (match st with
        | (5, y) :: (5, x) :: rest => match e_lbin i x y with
          | some v => e_go nx ls (v :: rest) h
          | none => none
        | _ => none)
      else (match i with
      | 5 => match st with
        | (0, x) :: rest => e_go nx ls ((5, e_i2l x) :: rest) h
        | _ => none
      | 6 => match st with
        | (0, 0) :: rest => e_go nx ls ((7, 0) :: rest) h
        | _ => none
      | 7 => match st with
        | (7, 1114636288) :: (7, 0) :: rest => e_go nx ls ((7, 0) :: rest) h
        | _ => none
      | 8 => match st with
        | (7, 0) :: rest => e_go nx ls ((6, 0) :: rest) h
        | _ => none
      | 9 => match st with
        | (6, 0) :: (6, 0) :: rest => e_go nx ls ((0, 0) :: rest) h
        | _ => none
      | _ => none)) := rfl
theorem step_15 (hF : eFix p s m args meth c D X cA Dg A) (hok : e_ok D pc (15, i, a, b, nx)) {r : eS} (hs : e_step G (15, i, a, b, nx) ls st h = some r) (hw : e_okS h.length st) (hwl : e_okLs h.length ls) (hwh : e_okH h.length h) (hRc : cells + r.2.2.2.2.1 ≤ R.cells) (hRs : slots + r.2.2.2.2.2.1 ≤ R.slots) (hRf : r.2.2.2.2.2.2.1 ≤ R.frames) (hRw : r.2.2.2.2.2.2.2 ≤ R.locals) (kk : eNext D p l e R s m args below meth c X cA Dg A Q ρ h.length r cells slots) : eGo D p l e R s m args below meth c X cA Dg A Q pc ls st h cells slots ρ H locs := by
  intro la hl hP hD hS
  rw [es_15] at hs
  rw [ok_15] at hok
  cases h5 : Nat.blt i 5
  · rw [h5] at hs hok
    simp only [cond_false] at hs hok
    split at hs
    · split at hs
      · cases hs
        have k2 := kk ρ H locs (fun _ _ => rfl) la hl hP hD hS
        exact hok _ la _ _ _ _ _ _ _ _ _ _ _ _ _ _ _ _ hF.1 (by rw [e_i2l_ok]; exact k2)
      · cases hs
    · split at hs
      · cases hs
        exact hok la _ _ _ _ _ _ _ _ _ _ _ _ _ _ _ _ hF.1 (kk ρ H locs (fun _ _ => rfl) la hl hP hD hS)
      · cases hs
    · split at hs
      · cases hs
        exact hok la _ _ _ _ _ _ _ _ _ _ _ _ _ _ _ _ hF.1 (kk ρ H locs (fun _ _ => rfl) la hl hP hD hS)
      · cases hs
    · split at hs
      · cases hs
        exact hok la _ _ _ _ _ _ _ _ _ _ _ _ _ _ _ _ hF.1 (kk ρ H locs (fun _ _ => rfl) la hl hP hD hS)
      · cases hs
    · split at hs
      · cases hs
        exact hok la _ _ _ _ _ _ _ _ _ _ _ _ _ _ _ _ hF.1 (kk ρ H locs (fun _ _ => rfl) la hl hP hD hS)
      · cases hs
    · cases hs
  · rw [h5] at hs hok
    simp only [cond_true] at hs hok
    split at hs
    · rename_i y x rest
      cases hv : e_lbin i x y with
      | none => rw [hv] at hs; cases hs
      | some v =>
        rw [hv] at hs
        cases hs
        exact hok la _ (lN x) (lN y) (c_v X ρ v) (e_lbin_ok X ρ hv).2 _ _ _ _ _ _ _ _ _ _ _ _ _ _ _ hF.1 (kk ρ H locs (fun _ _ => rfl) la hl hP hD hS)
    · cases hs
end STEPW
