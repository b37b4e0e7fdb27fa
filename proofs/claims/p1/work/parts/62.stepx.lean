/-! steps that make rows; what a step leaves speaks of its own places alone -/
theorem es_160 {G : eG} {a b nx : Nat} {ls : eL} {st : List eV} {h : eH} : e_step G (16, 0, a, b, nx) ls st h = (match st with
        | (0, n) :: rest => bif Nat.blt n 65536 then some (nx, ls, (2, h.length) :: rest, h ++ [(1, a, e_rep (e_dflt a) n)], 1, n, 0, 0) else none
        | _ => none) := rfl
theorem es_161 {G : eG} {a b nx : Nat} {ls : eL} {st : List eV} {h : eH} : e_step G (16, 1, a, b, nx) ls st h = (match st with
        | (0, n) :: rest => bif Nat.blt n 65536 then some (nx, ls, (2, h.length) :: rest, h ++ [(1, 7, e_rep (1, 0) n)], 1, n, 0, 0) else none
        | _ => none) := rfl
theorem es_162 {G : eG} {a b nx : Nat} {ls : eL} {st : List eV} {h : eH} : e_step G (16, 2, a, b, nx) ls st h = (match st with
        | (0, k) :: (0, n) :: rest => bif Nat.blt n 65536 && Nat.blt k 65536 then some (nx, ls, (2, h.length) :: rest, h ++ ((1, 6, e_rows (h.length + 1) n) :: e_rep (1, 0, e_rep (0, 0) k) n), 1 + n, n + n * k, 0, 0) else none
        | _ => none) := rfl
theorem rep_mem {α : Type} {x y : α} : ∀ {n : Nat}, y ∈ e_rep x n → y = x
  | 0, h => absurd h List.not_mem_nil
  | n + 1, h => (List.mem_cons.mp h).elim id (fun h => rep_mem h)
theorem dflt_tag (t : Nat) : (e_dflt t).1 ≠ 2 := by
  unfold e_dflt
  split <;> decide
theorem rep_ok {n k : Nat} {v : eV} (h : v.1 ≠ 2) : e_okS n (e_rep v k) := fun u hu q => absurd q (by rw [rep_mem hu]; exact h)
theorem rows_len : ∀ (n i : Nat), (e_rows i n).length = n
  | 0, _ => rfl
  | n + 1, i => congrArg (· + 1) (rows_len n (i + 1))
theorem rows_at : ∀ (n i j : Nat), j < n → (e_rows i n)[j]? = some (2, i + j)
  | 0, _, _, h => by omega
  | n + 1, i, 0, _ => rfl
  | n + 1, i, j + 1, h => by
    show (e_rows (i + 1) n)[j]? = _
    rw [rows_at n (i + 1) j (by omega), show i + 1 + j = i + (j + 1) by omega]
theorem rows_mem {n i : Nat} {v : eV} (h : v ∈ e_rows i n) : v.1 = 2 ∧ v.2 < i + n := by
  obtain ⟨j, hj⟩ := List.getElem?_of_mem h
  have hlt := lt_of_getElem? hj
  rw [rows_len] at hlt
  rw [rows_at n i j hlt] at hj
  cases hj
  exact ⟨rfl, by show i + j < i + n; omega⟩
theorem rep_range {α : Type} (x : α) (n : Nat) : e_rep x n = (List.range n).map (fun _ => x) := by
  apply List.ext_getElem?
  intro j
  rw [List.getElem?_map]
  by_cases h : j < n
  · rw [List.getElem?_range h]
    show _ = some x
    have : j < (e_rep x n).length := by rw [e_rep_len]; exact h
    rw [List.getElem?_eq_getElem this]
    exact congrArg some (rep_mem (List.getElem_mem this))
  · rw [List.getElem?_eq_none (by rw [e_rep_len]; omega), List.getElem?_eq_none (by rw [List.length_range]; omega)]
    rfl
section STEPX
variable {D : eD} {p : Program} {l : Launch} {e : Env} {R : Room} {s : State} {m : MethodId} {args : Array Value} {below : List Frame} {meth : Method} {c : Code} {X : eX} {cA : Nat → ClassId} {Dg : va_G} {A : Nat → Prop} {Q : State → Prop} {G : eG}
variable {i a b nx pc : Nat} {ls : eL} {st : List eV} {h : eH} {cells slots : Nat} {ρ : Nat → Nat} {H : Heap} {locs : List Loc}
theorem step_160 (hF : eFix p s m args meth c D X cA Dg A) (hok : e_ok D pc (16, 0, a, b, nx)) {r : eS} (hs : e_step G (16, 0, a, b, nx) ls st h = some r) (hw : e_okS h.length st) (hwl : e_okLs h.length ls) (hwh : e_okH h.length h) (hRc : cells + r.2.2.2.2.1 ≤ R.cells) (hRs : slots + r.2.2.2.2.2.1 ≤ R.slots) (kk : eNext D p l e R s m args below meth c X cA Dg A Q ρ h.length r cells slots) : eGo D p l e R s m args below meth c X cA Dg A Q pc ls st h cells slots ρ H locs := by
  intro la hl hP hD hS
  rw [es_160] at hs
  split at hs
  · rename_i n rest
    cases hc : Nat.blt n 65536
    · rw [hc] at hs; cases hs
    · rw [hc] at hs
      cases hs
      have hn : n < 65536 := Nat.le_of_ble_eq_true hc
      refine hok.1 _ _ _ _ _ _ _ _ _ _ _ _ _ _ _ X ρ cA Dg A (c_w X cA ρ 0 h) n la _ hF.1 hF.2.1 hF.2.2.2 hP hD hS hF.2.2.1 hn hRc hRs (fun q H1 hP1 hD1 hS1 => ?_)
      have hρ : ∀ k, k < h.length → e_ext ρ h.length q k = ρ k := fun k hk => e_ext_lt hk
      have e1 : c_w X cA ρ 0 h ++ [(q, .inl (cA a, c_a X ρ a (e_rep (e_dflt a) n)))] = c_w X cA (e_ext ρ h.length q) 0 (h ++ [(1, a, e_rep (e_dflt a) n)]) := by
        rw [cw_new hwh, c_c_congr (n := h.length) (rep_ok (dflt_tag a)) hρ]
        rfl
      rw [e1] at hP1 hD1
      have hwr : e_okS h.length rest := fun v hv => hw v (List.mem_cons_of_mem _ hv)
      have k2 := kk (e_ext ρ h.length q) H1 locs hρ la (by rw [c_ls_congr hwl hρ]; exact hl) hP1 hD1 hS1
      have e2 : ((2, h.length) :: rest : List eV).map (c_v X (e_ext ρ h.length q)) = .ref q :: rest.map (c_v X ρ) := by
        rw [List.map_cons, c_st_congr hwr hρ]
        show Value.ref (e_ext ρ h.length q h.length) :: _ = _
        rw [e_ext_at]
      exact e2 ▸ k2
  · cases hs
theorem step_161 (hF : eFix p s m args meth c D X cA Dg A) (hok : e_ok D pc (16, 1, a, b, nx)) {r : eS} (hs : e_step G (16, 1, a, b, nx) ls st h = some r) (hw : e_okS h.length st) (hwl : e_okLs h.length ls) (hwh : e_okH h.length h) (hRc : cells + r.2.2.2.2.1 ≤ R.cells) (hRs : slots + r.2.2.2.2.2.1 ≤ R.slots) (kk : eNext D p l e R s m args below meth c X cA Dg A Q ρ h.length r cells slots) : eGo D p l e R s m args below meth c X cA Dg A Q pc ls st h cells slots ρ H locs := by
  intro la hl hP hD hS
  rw [es_161] at hs
  split at hs
  · rename_i n rest
    cases hc : Nat.blt n 65536
    · rw [hc] at hs; cases hs
    · rw [hc] at hs
      cases hs
      have hn : n < 65536 := Nat.le_of_ble_eq_true hc
      refine hok _ _ _ _ _ _ _ _ _ _ _ _ _ _ _ X ρ cA Dg A (c_w X cA ρ 0 h) n la _ hF.1 hF.2.1 hF.2.2.2 hP hD hS hF.2.2.1 hn hRc hRs (fun q H1 hP1 hD1 hS1 => ?_)
      have hρ : ∀ k, k < h.length → e_ext ρ h.length q k = ρ k := fun k hk => e_ext_lt hk
      have e1 : c_w X cA ρ 0 h ++ [(q, .inl (cA 7, c_a X ρ 7 (e_rep (1, 0) n)))] = c_w X cA (e_ext ρ h.length q) 0 (h ++ [(1, 7, e_rep (1, 0) n)]) := by
        rw [cw_new hwh, c_c_congr (n := h.length) (rep_ok (by decide)) hρ]
        rfl
      rw [show e_dflt 7 = (1, 0) from rfl, e1] at hP1 hD1
      have hwr : e_okS h.length rest := fun v hv => hw v (List.mem_cons_of_mem _ hv)
      have k2 := kk (e_ext ρ h.length q) H1 locs hρ la (by rw [c_ls_congr hwl hρ]; exact hl) hP1 hD1 hS1
      have e2 : ((2, h.length) :: rest : List eV).map (c_v X (e_ext ρ h.length q)) = .ref q :: rest.map (c_v X ρ) := by
        rw [List.map_cons, c_st_congr hwr hρ]
        show Value.ref (e_ext ρ h.length q h.length) :: _ = _
        rw [e_ext_at]
      exact e2 ▸ k2
  · cases hs
theorem step_162 (hF : eFix p s m args meth c D X cA Dg A) (hok : e_ok D pc (16, 2, a, b, nx)) {r : eS} (hs : e_step G (16, 2, a, b, nx) ls st h = some r) (hw : e_okS h.length st) (hwl : e_okLs h.length ls) (hwh : e_okH h.length h) (hRc : cells + r.2.2.2.2.1 ≤ R.cells) (hRs : slots + r.2.2.2.2.2.1 ≤ R.slots) (kk : eNext D p l e R s m args below meth c X cA Dg A Q ρ h.length r cells slots) : eGo D p l e R s m args below meth c X cA Dg A Q pc ls st h cells slots ρ H locs := by
  intro la hl hP hD hS
  rw [es_162] at hs
  split at hs
  · rename_i k n rest
    cases hc : (Nat.blt n 65536 && Nat.blt k 65536)
    · rw [hc] at hs; cases hs
    · rw [hc] at hs
      cases hs
      simp only [Bool.and_eq_true] at hc
      have hn : n < 65536 := Nat.le_of_ble_eq_true hc.1
      have hk : k < 65536 := Nat.le_of_ble_eq_true hc.2
      refine hok _ _ _ _ _ _ _ _ _ _ _ _ _ _ _ X ρ cA Dg A (c_w X cA ρ 0 h) n k la _ hF.1 hF.2.1 hF.2.2.2 hP hD hS hF.2.2.1 hn hk hRc hRs (fun q r9 H1 hP1 hD1 hS1 => ?_)
      generalize hρ' : (fun j => if j < h.length then ρ j else if j = h.length then q else r9 (j - (h.length + 1))) = ρ'
      have hρ : ∀ k, k < h.length → ρ' k = ρ k := fun k hk => by rw [← hρ']; exact if_pos hk
      have hρn : ρ' h.length = q := by rw [← hρ']; show (if h.length < h.length then _ else _) = _; rw [if_neg (by omega), if_pos rfl]
      have hρr : ∀ j, ρ' (h.length + 1 + j) = r9 j := fun j => by
        rw [← hρ']
        show (if h.length + 1 + j < h.length then _ else _) = _
        rw [if_neg (by omega), if_neg (by omega), show h.length + 1 + j - (h.length + 1) = j by omega]
      have e4 : c_a X ρ' 6 (e_rows (h.length + 1) n) = (n, .inr (.inr (.inr (.inr (fun i => if i < n then some (r9 i) else none))))) := by
        have e5 : (fun j => c_R X ρ' ((e_rows (h.length + 1) n).getD j (1, 0))) = fun i => if i < n then some (r9 i) else none := funext fun j => by
          by_cases hj : j < n
          · rw [getD_of (rows_at n (h.length + 1) j hj), if_pos hj, ← hρr j]
            rfl
          · rw [if_neg hj, List.getD_eq_getElem?_getD, List.getElem?_eq_none (by rw [rows_len]; omega)]
            rfl
        rw [c_a_6, rows_len, e5]
      have e6 : ∀ (m9 i : Nat), c_w X cA ρ' (h.length + 1 + i) (e_rep (1, 0, e_rep (0, 0) k) m9) = (List.range m9).map (fun j => (r9 (i + j), .inl (cA 0, c_a X ρ 0 (e_rep (0, 0) k)))) := by
        intro m9
        induction m9 with
        | zero => intro i; rfl
        | succ m9 ih =>
          intro i
          show (ρ' (h.length + 1 + i), c_c X cA ρ' (1, 0, e_rep (0, 0) k)) :: c_w X cA ρ' (h.length + 1 + i + 1) (e_rep (1, 0, e_rep (0, 0) k) m9) = _
          rw [hρr, c_c_congr (n := h.length) (rep_ok (by decide)) hρ, show h.length + 1 + i + 1 = h.length + 1 + (i + 1) by omega, ih (i + 1), List.range_succ_eq_map, List.map_cons, List.map_map]
          have e7 : (List.range m9).map (fun j => (r9 (i + 1 + j), (Sum.inl (cA 0, c_a X ρ 0 (e_rep (0, 0) k)) : va_E))) = (List.range m9).map ((fun j => (r9 (i + j), (Sum.inl (cA 0, c_a X ρ 0 (e_rep (0, 0) k)) : va_E))) ∘ Nat.succ) := List.map_congr_left fun j _ => by
            show (r9 (i + 1 + j), _) = (r9 (i + (j + 1)), _)
            rw [show i + 1 + j = i + (j + 1) by omega]
          rw [e7]
          rfl
      have e1 : (c_w X cA ρ 0 h ++ [(q, .inl (cA 6, n, .inr (.inr (.inr (.inr (fun i => if i < n then some (r9 i) else none))))))]) ++ (List.range n).map (fun i => (r9 i, .inl (cA 0, c_a X ρ 0 (e_rep (0, 0) k)))) = c_w X cA ρ' 0 (h ++ ((1, 6, e_rows (h.length + 1) n) :: e_rep (1, 0, e_rep (0, 0) k) n)) := by
        rw [cw_app, cw_congr hρ h 0 hwh (by omega), Nat.zero_add]
        show _ = _ ++ ((ρ' h.length, .inl (cA 6, c_a X ρ' 6 (e_rows (h.length + 1) n))) :: c_w X cA ρ' (h.length + 1) (e_rep (1, 0, e_rep (0, 0) k) n))
        rw [hρn, e4, show h.length + 1 = h.length + 1 + 0 from rfl, e6 n 0, List.append_assoc]
        have e7 : (List.range n).map (fun j => (r9 (0 + j), (Sum.inl (cA 0, c_a X ρ 0 (e_rep (0, 0) k)) : va_E))) = (List.range n).map (fun j => (r9 j, (Sum.inl (cA 0, c_a X ρ 0 (e_rep (0, 0) k)) : va_E))) := List.map_congr_left fun j _ => by rw [Nat.zero_add]
        rw [e7]
        rfl
      rw [e1] at hP1 hD1
      have hwr : e_okS h.length rest := fun v hv => hw v (List.mem_cons_of_mem _ (List.mem_cons_of_mem _ hv))
      have k2 := kk ρ' H1 locs hρ la (by rw [c_ls_congr hwl hρ]; exact hl) hP1 hD1 hS1
      have e2 : ((2, h.length) :: rest : List eV).map (c_v X ρ') = .ref q :: rest.map (c_v X ρ) := by
        rw [List.map_cons, c_st_congr hwr hρ]
        show Value.ref (ρ' h.length) :: _ = _
        rw [hρn]
      rw [show cells + 1 + n = cells + (1 + n) by omega, show slots + n + n * k = slots + (n + n * k) by omega]
      exact e2 ▸ k2
  · cases hs
end STEPX
/-! copies -/
theorem ob_ok {c : Nat} : ∀ {x : Option eC}, e_ob c x = true → ∃ fs, x = some (0, c, fs)
  | some (0, ci, fs), h => by
    have := beqE (show Nat.beq ci c = true from h)
    subst this
    exact ⟨fs, rfl⟩
  | some (_ + 1, _, _), h => by cases h
  | none, h => by cases h
theorem no_ok {X : eX} {cA : Nat → ClassId} {ρ : Nat → Nat} {h : eH} {c : Nat} : ∀ {u : eV}, e_no h c u = true → ∀ y : Nat, c_R X ρ u = some y → ∃ (q1 : Nat) (vs : List Value), (c_w X cA ρ 0 h)[q1]? = some (y, .inr (c, vs))
  | (0, _), hu, y, hy => by cases hu
  | (1, _), hu, y, hy => by cases hy
  | (2, k), hu, y, hy => by
    obtain ⟨fs, hg⟩ := ob_ok (x := e_get h k) hu
    cases hy
    exact ⟨k, _, cw_at hg⟩
  | (_ + 3, _), hu, y, hy => by cases hu
theorem allc_ok {X : eX} {cA : Nat → ClassId} {ρ : Nat → Nat} {h : eH} {c : Nat} : ∀ {l : List eV}, e_allc h c l = true → ∀ (i : Nat) (u : eV) (y : Nat), l[i]? = some u → c_R X ρ u = some y → ∃ (q1 : Nat) (vs : List Value), (c_w X cA ρ 0 h)[q1]? = some (y, .inr (c, vs))
  | [], _, i, u, y, hi, _ => by cases i <;> cases hi
  | v :: t, ha, i, u, y, hi, hy => by
    have ha : (e_no h c v && e_allc h c t) = true := ha
    rw [Bool.and_eq_true] at ha
    match i, hi with
    | 0, hi => cases hi; exact no_ok ha.1 y hy
    | i + 1, hi => exact allc_ok ha.2 i u y hi hy
theorem allobj_cons {h : eH} {v : eV} {t : List eV} : e_allobj h (v :: t) = (match e_cls h v with
    | some c => e_allc h c (v :: t)
    | none => e_allc h 99 (v :: t)) := rfl
theorem allobj_ok {X : eX} {cA : Nat → ClassId} {ρ : Nat → Nat} {h : eH} : ∀ {l : List eV}, e_allobj h l = true → ∃ c : Nat, ∀ (i : Nat) (u : eV) (y : Nat), l[i]? = some u → c_R X ρ u = some y → ∃ (q1 : Nat) (vs : List Value), (c_w X cA ρ 0 h)[q1]? = some (y, .inr (c, vs))
  | [], _ => ⟨0, fun i u y hi _ => by cases i <;> cases hi⟩
  | v :: t, ha => by
    rw [allobj_cons] at ha
    cases hc : e_cls h v with
    | some c => rw [hc] at ha; exact ⟨c, allc_ok ha⟩
    | none => rw [hc] at ha; exact ⟨99, allc_ok ha⟩
theorem es_170 {G : eG} {a b nx : Nat} {ls : eL} {st : List eV} {h : eH} : e_step G (17, 0, a, b, nx) ls st h = (match st with
        | (2, q) :: rest => match e_get h q with
          | some (1, 7, _) => some (nx, ls, (3, 8) :: rest, h, 0, 0, 1, 14 + e_cat rest)
          | _ => none
        | _ => none) := rfl
theorem es_171 {G : eG} {a b nx : Nat} {ls : eL} {st : List eV} {h : eH} : e_step G (17, 1, a, b, nx) ls st h = (match st with
        | (0, n) :: (0, 0) :: (2, q) :: (0, 0) :: (2, q0) :: rest => match e_get h q0, e_get h q with
          | some (1, 7, el), some (1, 7, fl) => bif Nat.ble n el.length && (Nat.ble n fl.length && (Nat.blt n 65536 && e_allobj h el)) then some (nx, ls, rest, h.set q (1, 7, el.take n ++ fl.drop n), 0, 0, 1, 60 + e_cat rest) else none
          | _, _ => none
        | _ => none) := by simp only [← e_set_eq]; rfl
section STEPC
variable {D : eD} {p : Program} {l : Launch} {e : Env} {R : Room} {s : State} {m : MethodId} {args : Array Value} {below : List Frame} {meth : Method} {c : Code} {X : eX} {cA : Nat → ClassId} {Dg : va_G} {A : Nat → Prop} {Q : State → Prop} {G : eG}
variable {i a b nx pc : Nat} {ls : eL} {st : List eV} {h : eH} {cells slots : Nat} {ρ : Nat → Nat} {H : Heap} {locs : List Loc}
theorem step_17 (hF : eFix p s m args meth c D X cA Dg A) (hok : e_ok D pc (17, i, a, b, nx)) {r : eS} (hs : e_step G (17, i, a, b, nx) ls st h = some r) (hRf : r.2.2.2.2.2.2.1 ≤ R.frames) (hRw : r.2.2.2.2.2.2.2 ≤ R.locals) (kk : eNext D p l e R s m args below meth c X cA Dg A Q ρ h.length r cells slots) : eGo D p l e R s m args below meth c X cA Dg A Q pc ls st h cells slots ρ H locs := by
  intro la hl hP hD hS
  match i, hok, hs with
  | 0, hok, hs =>
    rw [es_170] at hs
    split at hs
    · rename_i q rest _
      split at hs
      · rename_i el hg
        cases hs
        refine hok _ _ _ _ _ _ _ _ _ _ _ _ _ _ _ X ρ cA Dg A (c_w X cA ρ 0 h) (ρ q) q el la _ hF.1 hF.2.1 hF.2.2.2 hP (cw_at hg) hl.1 hRf ?_ (kk ρ H locs (fun _ _ => rfl) la hl hP hD hS)
        rw [c_cats]
        have hRw : 14 + e_cat rest ≤ R.locals := hRw
        omega
      · cases hs
    · cases hs
  | 1, hok, hs =>
    rw [es_171] at hs
    split at hs
    · rename_i n q q0 rest _
      split at hs
      · rename_i el fl hg0 hg
        cases hc : (Nat.ble n el.length && (Nat.ble n fl.length && (Nat.blt n 65536 && e_allobj h el)))
        · rw [hc] at hs; cases hs
        · rw [hc] at hs
          simp only [Bool.and_eq_true] at hc
          cases hs
          refine hok _ _ _ _ _ _ _ _ _ _ _ _ _ _ _ X ρ cA Dg A (c_w X cA ρ 0 h) (ρ q0) (ρ q) q0 q n el fl la _ hF.1 hF.2.1 hP hD hS (cw_at hg0) (cw_at hg) (allobj_ok hc.2.2.2) (Nat.le_of_ble_eq_true hc.1) (Nat.le_of_ble_eq_true hc.2.1) (Nat.le_of_ble_eq_true hc.2.2.1) hl.1 hRf ?_ (fun H1 locs1 hP1 hD1 hS1 => ?_)
          · rw [c_cats]
            have hRw : 60 + e_cat rest ≤ R.locals := hRw
            omega
          · have e1 : (c_w X cA ρ 0 h).set q (ρ q, .inl (cA 7, c_a X ρ 7 (el.take n ++ fl.drop n))) = c_w X cA ρ 0 (h.set q (1, 7, el.take n ++ fl.drop n)) := by
              rw [← cw_set, Nat.zero_add]
              rfl
            rw [e1] at hP1 hD1
            exact kk ρ H1 locs1 (fun _ _ => rfl) la hl hP1 hD1 hS1
      · cases hs
    · cases hs
  | i + 2, hok, hs => cases hs
theorem es_18 {G : eG} {i a b nx : Nat} {ls : eL} {st : List eV} {h : eH} : e_step G (18, i, a, b, nx) ls st h = (match st with
      | (0, j) :: (2, q) :: rest => bif e_mdB G && (e_mdH h q && (Nat.blt j 60 && Nat.ble (e_cat rest) 8)) then some (nx, ls, (4, 200 + j) :: rest, h, 0, 0, 3, 100 + e_cat rest) else none
      | _ => none) := rfl
theorem mdR_ok {h : eH} {q k : Nat} (hb : e_mdR h q k = true) : ∃ l, e_get h q = some (1, 0, (4, k) :: l) := by
  unfold e_mdR at hb
  split at hb
  · rename_i k' l hg
    have := beqE hb
    subst this
    exact ⟨l, hg⟩
  · cases hb
theorem mdB_ok {X : eX} {G : eG} (hG : e_ok0 X G) (hb : e_mdB G = true) : (∃ b, b < 60 ∧ X.2 1 = nI b) ∧ ∃ g, g < 100 ∧ X.2 2 = nI g := by
  unfold e_mdB at hb
  split at hb
  · rename_i l1 h1 l2 h2 e1 e2
    simp only [Bool.and_eq_true] at hb
    have q1 := Nat.le_of_ble_eq_true hb.1
    have q2 := Nat.le_of_ble_eq_true hb.2.1
    have q3 := Nat.le_of_ble_eq_true hb.2.2.1
    have q4 := Nat.le_of_ble_eq_true hb.2.2.2
    obtain ⟨b1, b2⟩ := hG.1 _ _ _ e1
    obtain ⟨b3, b4⟩ := hG.1 _ _ _ e2
    refine ⟨⟨e_bx (X.2 1) - 2147483648, by omega, ?_⟩, e_bx (X.2 2) - 2147483648, by omega, ?_⟩
    · rw [e_bx_eq, e_bx_nI]
      unfold e_b
      omega
    · rw [e_bx_eq, e_bx_nI]
      unfold e_b
      omega
  · cases hb
theorem step_18 (hG : e_ok0 X G) (hF : eFix p s m args meth c D X cA Dg A) (hok : e_ok D pc (18, i, a, b, nx)) {r : eS} (hs : e_step G (18, i, a, b, nx) ls st h = some r) (hRc : cells + r.2.2.2.2.1 ≤ R.cells) (hRs : slots + r.2.2.2.2.2.1 ≤ R.slots) (hRf : r.2.2.2.2.2.2.1 ≤ R.frames) (hRw : r.2.2.2.2.2.2.2 ≤ R.locals) (kk : eNext D p l e R s m args below meth c X cA Dg A Q ρ h.length r cells slots) : eGo D p l e R s m args below meth c X cA Dg A Q pc ls st h cells slots ρ H locs := by
  intro la hl hP hD hS
  rw [es_18] at hs
  split at hs
  · rename_i j q rest
    cases hc : (e_mdB G && (e_mdH h q && (Nat.blt j 60 && Nat.ble (e_cat rest) 8)))
    · rw [hc] at hs; cases hs
    · rw [hc] at hs
      simp only [Bool.and_eq_true] at hc
      cases hs
      obtain ⟨hb, hh, hj, hj8⟩ := hc
      have hj8 : e_cat rest ≤ 8 := Nat.le_of_ble_eq_true hj8
      have hj : j < 60 := Nat.le_of_ble_eq_true hj
      obtain ⟨hb1, hb2⟩ := mdB_ok hG hb
      unfold e_mdH at hh
      split at hh
      · rename_i q1 q2 v3 hg
        simp only [Bool.and_eq_true] at hh
        obtain ⟨l1, g1⟩ := mdR_ok hh.1
        obtain ⟨l2, g2⟩ := mdR_ok hh.2
        have k2 := kk ρ H locs (fun _ _ => rfl) la hl hP hD hS
        have e9 : ((4, 200 + j) :: rest : List eV).map (c_v X ρ) = .int (md_val (X.2 1) (X.2 2) (nI j)) :: rest.map (c_v X ρ) := by
          rw [← hG.2.2 j hj]
          rfl
        rw [show ((nx, ls, (4, 200 + j) :: rest, h, 0, 0, 3, 100 + e_cat rest) : eS).2.2.1 = (4, 200 + j) :: rest from rfl, e9] at k2
        refine hok _ _ _ _ _ _ _ _ _ _ _ _ _ _ _ X ρ cA Dg A (c_w X cA ρ 0 h) (ρ q) q (ρ q1) q1 (ρ q2) q2 j (c_v X ρ v3) l1 l2 la _ hF.1 hF.2.1 hF.2.2.2 hP hS (cw_at hg) (cw_at g1) (cw_at g2) hb1 hb2 hj hl.1 hRf ?_ (by rw [c_cats]; exact hj8) hRc hRs k2
        rw [c_cats]
        have hRw : 100 + e_cat rest ≤ R.locals := hRw
        omega
      · cases hh
  · cases hs
end STEPC
