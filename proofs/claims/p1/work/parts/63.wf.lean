/-! what a step leaves speaks of its own places alone -/
abbrev eWf (n : Nat) (r : eS) : Prop := n ≤ r.2.2.2.1.length ∧ e_okS r.2.2.2.1.length r.2.2.1 ∧ e_okLs r.2.2.2.1.length r.2.1 ∧ e_okH r.2.2.2.1.length r.2.2.2.1
section WF
variable {G : eG} {i a b nx : Nat} {ls : eL} {st : List eV} {h : eH} {r : eS}
theorem ok_cons {n : Nat} {v : eV} {st : List eV} (h1 : e_okV n v) (h2 : e_okS n st) : e_okS n (v :: st) := List.forall_mem_cons.mpr ⟨h1, h2⟩
theorem ok_tail {n : Nat} {v : eV} {st : List eV} (h : e_okS n (v :: st)) : e_okS n st := fun u hu => h u (List.mem_cons_of_mem _ hu)
theorem ok_head {n : Nat} {v : eV} {st : List eV} (h : e_okS n (v :: st)) : e_okV n v := h v List.mem_cons_self
theorem drop1_sub {i : Nat} : ∀ {ls : eL} {q : Nat × eV}, q ∈ e_drop1 i ls → q ∈ ls
  | [], _, h => h
  | (j, v) :: t, q, h => by
    have h : q ∈ (bif Nat.beq j i || (Nat.beq (j + 1) i && e_wide v) then e_drop1 i t else (j, v) :: e_drop1 i t) := h
    cases hc : (Nat.beq j i || (Nat.beq (j + 1) i && e_wide v))
    · rw [hc] at h
      rcases List.mem_cons.mp h with h | h
      · rw [h]; exact List.mem_cons_self
      · exact List.mem_cons_of_mem _ (drop1_sub h)
    · rw [hc] at h
      exact List.mem_cons_of_mem _ (drop1_sub h)
theorem drop2_sub {i : Nat} : ∀ {ls : eL} {q : Nat × eV}, q ∈ e_drop2 i ls → q ∈ ls
  | [], _, h => h
  | (j, v) :: t, q, h => by
    have h : q ∈ (bif Nat.beq j i || (Nat.beq j (i + 1) || (Nat.beq (j + 1) i && e_wide v)) then e_drop2 i t else (j, v) :: e_drop2 i t) := h
    cases hc : (Nat.beq j i || (Nat.beq j (i + 1) || (Nat.beq (j + 1) i && e_wide v)))
    · rw [hc] at h
      rcases List.mem_cons.mp h with h | h
      · rw [h]; exact List.mem_cons_self
      · exact List.mem_cons_of_mem _ (drop2_sub h)
    · rw [hc] at h
      exact List.mem_cons_of_mem _ (drop2_sub h)
theorem ok_int {n : Nat} {v : eV} (h : e_isI v = true) : e_okV n v := fun q => by
  obtain ⟨t, k⟩ := v
  have q : t = 2 := q
  subst q
  cases h
theorem get_mem {α : Type} {l : List α} {j : Nat} {u : α} (h : e_get l j = some u) : u ∈ l := by
  rw [e_get_eq] at h
  exact List.mem_of_getElem? h
theorem es_0 : e_step G (0, i, a, b, nx) ls st h = (match i with
      | 0 => e_go nx ls ((0, a) :: st) h
      | 1 => e_go nx ls ((5, a) :: st) h
      | 2 => e_go nx ls ((6, a) :: st) h
      | 3 => e_go nx ls ((7, a) :: st) h
      | 4 => e_go nx ls ((1, 0) :: st) h
      | 5 => e_go nx ls ((3, a) :: st) h
      | _ => none) := rfl
theorem wf_0 (hw : e_okS h.length st) (hwl : e_okLs h.length ls) (hwh : e_okH h.length h) (hs : e_step G (0, i, a, b, nx) ls st h = some r) : eWf h.length r := by
  rw [es_0] at hs
  split at hs
  · cases hs; exact ⟨Nat.le_refl _, ok_cons (fun q => by cases q) hw, hwl, hwh⟩
  · cases hs; exact ⟨Nat.le_refl _, ok_cons (fun q => by cases q) hw, hwl, hwh⟩
  · cases hs; exact ⟨Nat.le_refl _, ok_cons (fun q => by cases q) hw, hwl, hwh⟩
  · cases hs; exact ⟨Nat.le_refl _, ok_cons (fun q => by cases q) hw, hwl, hwh⟩
  · cases hs; exact ⟨Nat.le_refl _, ok_cons (fun q => by cases q) hw, hwl, hwh⟩
  · cases hs; exact ⟨Nat.le_refl _, ok_cons (fun q => by cases q) hw, hwl, hwh⟩
  · cases hs
theorem wf_1 (hw : e_okS h.length st) (hwl : e_okLs h.length ls) (hwh : e_okH h.length h) (hs : e_step G (1, i, a, b, nx) ls st h = some r) : eWf h.length r := by
  rw [es_1] at hs
  cases h4 : Nat.blt i 4
  · rw [h4] at hs
    cases st with
    | nil => cases hs
    | cons v rest =>
      have hs : (bif e_kind (i - 4) v then e_go nx ((a, v) :: (bif Nat.blt i 6 then e_drop1 a ls else e_drop2 a ls)) rest h else none) = some r := hs
      cases hk : e_kind (i - 4) v
      · rw [hk] at hs; cases hs
      · rw [hk] at hs
        cases hs
        refine ⟨Nat.le_refl _, ok_tail hw, List.forall_mem_cons.mpr ⟨ok_head hw, fun q hq => ?_⟩, hwh⟩
        cases h6 : Nat.blt i 6
        · rw [h6] at hq; exact hwl q (drop2_sub hq)
        · rw [h6] at hq; exact hwl q (drop1_sub hq)
  · rw [h4] at hs
    cases hv : e_look ls a with
    | none => rw [hv] at hs; cases hs
    | some v =>
      rw [hv] at hs
      have hs : (bif e_kind i v then e_go nx ls (v :: st) h else none) = some r := hs
      cases hk : e_kind i v
      · rw [hk] at hs; cases hs
      · rw [hk] at hs
        cases hs
        exact ⟨Nat.le_refl _, ok_cons (hwl _ (c_look (fun _ => 0, fun _ => 0) (fun _ => 0) hv)) hw, hwl, hwh⟩
theorem es_2 : e_step G (2, i, a, b, nx) ls st h = (match i with
      | 0 => match e_look ls a with
        | some (0, n) => e_go nx ((a, (0, (n + b) % 4294967296)) :: e_drop1 a ls) st h
        | _ => none
      | 1 => match st with
        | v :: rest => bif e_wide v then none else e_go nx ls (v :: v :: rest) h
        | [] => none
      | 2 => match st with
        | v :: rest => bif e_wide v then none else e_go nx ls rest h
        | [] => none
      | 3 => match st with
        | v :: w :: rest => bif e_wide v || e_wide w then none else e_go nx ls (v :: w :: v :: rest) h
        | _ => none
      | 4 => e_go nx ls st h
      | _ => none) := rfl
theorem wf_2 (hw : e_okS h.length st) (hwl : e_okLs h.length ls) (hwh : e_okH h.length h) (hs : e_step G (2, i, a, b, nx) ls st h = some r) : eWf h.length r := by
  rw [es_2] at hs
  split at hs
  · split at hs
    · cases hs
      exact ⟨Nat.le_refl _, hw, List.forall_mem_cons.mpr ⟨(fun q => by cases q), (fun q hq => hwl q (drop1_sub hq))⟩, hwh⟩
    · cases hs
  · split at hs
    · rename_i v rest
      cases hc : e_wide v
      · rw [hc] at hs; cases hs; exact ⟨Nat.le_refl _, ok_cons (ok_head hw) hw, hwl, hwh⟩
      · rw [hc] at hs; cases hs
    · cases hs
  · split at hs
    · rename_i v rest
      cases hc : e_wide v
      · rw [hc] at hs; cases hs; exact ⟨Nat.le_refl _, ok_tail hw, hwl, hwh⟩
      · rw [hc] at hs; cases hs
    · cases hs
  · split at hs
    · rename_i v w rest
      cases hc : (e_wide v || e_wide w)
      · rw [hc] at hs; cases hs; exact ⟨Nat.le_refl _, ok_cons (ok_head hw) (ok_cons (ok_head (ok_tail hw)) (ok_cons (ok_head hw) (ok_tail (ok_tail hw)))), hwl, hwh⟩
      · rw [hc] at hs; cases hs
    · cases hs
  · cases hs; exact ⟨Nat.le_refl _, hw, hwl, hwh⟩
  · cases hs
theorem wf_3 (hw : e_okS h.length st) (hwl : e_okLs h.length ls) (hwh : e_okH h.length h) (hG : ∃ X, e_ok0 X G) (hs : e_step G (3, i, a, b, nx) ls st h = some r) : eWf h.length r := by
  obtain ⟨X, hG⟩ := hG
  match st, hs, hw with
  | [], hs, _ => cases hs
  | [_], hs, _ => cases hs
  | y :: x :: rest, hs, hw =>
    have hs : (match e_bin G i x y with
        | some v => e_go nx ls (v :: rest) h
        | none => none) = some r := hs
    cases hv : e_bin G i x y with
    | none => rw [hv] at hs; cases hs
    | some v =>
      rw [hv] at hs
      cases hs
      exact ⟨Nat.le_refl _, ok_cons (ok_int (e_bin_ok hG hv).2.2.1) (ok_tail (ok_tail hw)), hwl, hwh⟩
theorem wf_4 (hw : e_okS h.length st) (hwl : e_okLs h.length ls) (hwh : e_okH h.length h) (hG : ∃ X, e_ok0 X G) (hs : e_step G (4, i, a, b, nx) ls st h = some r) : eWf h.length r := by
  obtain ⟨X, hG⟩ := hG
  match st, hs, hw with
  | [], hs, _ => cases hs
  | x :: rest, hs, hw =>
    have hs : (match e_un G i x with
        | some v => e_go nx ls (v :: rest) h
        | none => none) = some r := hs
    cases hv : e_un G i x with
    | none => rw [hv] at hs; cases hs
    | some v =>
      rw [hv] at hs
      cases hs
      exact ⟨Nat.le_refl _, ok_cons (ok_int (e_un_ok hG hv).2.1) (ok_tail hw), hwl, hwh⟩
theorem wf_5 (hw : e_okS h.length st) (hwl : e_okLs h.length ls) (hwh : e_okH h.length h) (hs : e_step G (5, i, a, b, nx) ls st h = some r) : eWf h.length r := by
  match st, hs, hw with
  | [], hs, _ => cases hs
  | x :: rest, hs, hw =>
    have hs : (match e_cond G i x (0, 0) with
        | some c => e_go (bif c then a else nx) ls rest h
        | none => none) = some r := hs
    cases hv : e_cond G i x (0, 0) with
    | none => rw [hv] at hs; cases hs
    | some z => rw [hv] at hs; cases hs; exact ⟨Nat.le_refl _, ok_tail hw, hwl, hwh⟩
theorem wf_6 (hw : e_okS h.length st) (hwl : e_okLs h.length ls) (hwh : e_okH h.length h) (hs : e_step G (6, i, a, b, nx) ls st h = some r) : eWf h.length r := by
  match st, hs, hw with
  | [], hs, _ => cases hs
  | [_], hs, _ => cases hs
  | y :: x :: rest, hs, hw =>
    have hs : (match e_cond G i x y with
        | some c => e_go (bif c then a else nx) ls rest h
        | none => none) = some r := hs
    cases hv : e_cond G i x y with
    | none => rw [hv] at hs; cases hs
    | some z => rw [hv] at hs; cases hs; exact ⟨Nat.le_refl _, ok_tail (ok_tail hw), hwl, hwh⟩
theorem wf_7 (hw : e_okS h.length st) (hwl : e_okLs h.length ls) (hwh : e_okH h.length h) (hok : i = 1 → ∀ v ∈ pg_def a, v.1 ≠ 2) (hs : e_step G (7, i, a, b, nx) ls st h = some r) : eWf h.length r := by
  match i, hok, hs with
  | 0, _, hs =>
    match st, hs, hw with
    | [], hs, _ => cases hs
    | v :: rest, hs, hw =>
      have hs : (match e_fld h v a b with
            | some u => e_go nx ls (u :: rest) h
            | none => none) = some r := hs
      cases hu : e_fld h v a b with
      | none => rw [hu] at hs; cases hs
      | some u =>
        rw [hu] at hs
        cases hs
        refine ⟨Nat.le_refl _, ok_cons ?_ (ok_tail hw), hwl, hwh⟩
        unfold e_fld at hu
        split at hu
        · rename_i q
          split at hu
          · rename_i c9 fs hg
            cases hc : Nat.beq c9 a
            · rw [hc] at hu; cases hu
            · rw [hc] at hu
              exact hwh _ (get_mem hg) u (get_mem hu)
          · cases hu
        · rename_i x
          split at hu
          · rename_i c9 fs hx
            cases hc : Nat.beq c9 a
            · rw [hc] at hu; cases hu
            · rw [hc] at hu
              have hm := get_mem (α := eV) (l := fs) hu
              rcases xf_cases hx with ⟨_, _, rfl⟩ | ⟨k, _, _, _, rfl⟩
              · rcases List.mem_cons.mp hm with rfl | hm
                · exact fun q => by cases q
                · rcases List.mem_cons.mp hm with rfl | hm
                  · exact fun q => by cases q
                  · exact absurd hm List.not_mem_nil
              · rcases List.mem_cons.mp hm with rfl | hm
                · exact fun q => by cases q
                · exact absurd hm List.not_mem_nil
          · cases hu
        · cases hu
  | 1, hok, hs =>
    cases hs
    have e9 : (h ++ [(0, a, pg_def a)] : eH).length = h.length + 1 := by rw [List.length_append]; rfl
    refine ⟨by show _ ≤ (h ++ [_] : eH).length; omega, ?_, ?_, ?_⟩
    · show e_okS (h ++ [_] : eH).length _
      rw [e9]
      exact ok_cons (fun _ => by show h.length < h.length + 1; omega) (hw.mono (by omega))
    · show e_okLs (h ++ [_] : eH).length _
      rw [e9]; exact hwl.mono (by omega)
    · show e_okH (h ++ [_] : eH).length _
      rw [e9]
      intro c9 hc9
      rcases List.mem_append.mp hc9 with hc9 | hc9
      · exact (hwh c9 hc9).mono (by omega)
      · rw [List.mem_singleton.mp hc9]
        exact fun v hv q => absurd q (hok rfl v hv)
  | 2, _, hs =>
    match st, hs, hw with
    | [], hs, _ => cases hs
    | v :: rest, hs, hw =>
      have hs : (match e_cls h v with
            | some c => bif Nat.beq c a then e_go nx ls (v :: rest) h else none
            | none => none) = some r := hs
      cases hu : e_cls h v with
      | none => rw [hu] at hs; cases hs
      | some ci =>
        rw [hu] at hs
        have hs : (bif Nat.beq ci a then e_go nx ls (v :: rest) h else none) = some r := hs
        cases hc : Nat.beq ci a
        · rw [hc] at hs; cases hs
        · rw [hc] at hs; cases hs; exact ⟨Nat.le_refl _, hw, hwl, hwh⟩
  | 3, _, hs =>
    match st, hs, hw with
    | [], hs, _ => cases hs
    | v :: rest, hs, hw =>
      have hs : (match e_arr h v with
            | some (t, l) => bif Nat.blt t 8 then e_go nx ls ((0, l.length) :: rest) h else none
            | none => none) = some r := hs
      cases hu : e_arr h v with
      | none => rw [hu] at hs; cases hs
      | some z =>
        obtain ⟨t, el⟩ := z
        rw [hu] at hs
        have hs : (bif Nat.blt t 8 then e_go nx ls ((0, el.length) :: rest) h else none) = some r := hs
        cases hc : Nat.blt t 8
        · rw [hc] at hs; cases hs
        · rw [hc] at hs; cases hs; exact ⟨Nat.le_refl _, ok_cons (fun q => by cases q) (ok_tail hw), hwl, hwh⟩
  | 4, _, hs =>
    rw [es_74] at hs
    split at hs
    · cases hs; exact ⟨Nat.le_refl _, ok_tail hw, hwl, hwh⟩
    · cases hs
  | 5, _, hs =>
    match st, hs, hw with
    | [], hs, _ => cases hs
    | [_], hs, _ => cases hs
    | y :: x :: rest, hs, hw =>
      have hs : (bif e_isR x && e_isR y then (match e_same x y with
              | some c => e_go (bif c then a else nx) ls rest h
              | none => none) else none) = some r := hs
      cases hq : (e_isR x && e_isR y)
      · rw [hq] at hs; cases hs
      · rw [hq] at hs
        cases hz : e_same x y with
        | none => rw [hz] at hs; cases hs
        | some z => rw [hz] at hs; cases hs; exact ⟨Nat.le_refl _, ok_tail (ok_tail hw), hwl, hwh⟩
  | 6, _, hs =>
    match st, hs, hw with
    | [], hs, _ => cases hs
    | [_], hs, _ => cases hs
    | y :: x :: rest, hs, hw =>
      have hs : (bif e_isR x && e_isR y then (match e_same x y with
              | some c => e_go (bif c then nx else a) ls rest h
              | none => none) else none) = some r := hs
      cases hq : (e_isR x && e_isR y)
      · rw [hq] at hs; cases hs
      · rw [hq] at hs
        cases hz : e_same x y with
        | none => rw [hz] at hs; cases hs
        | some z => rw [hz] at hs; cases hs; exact ⟨Nat.le_refl _, ok_tail (ok_tail hw), hwl, hwh⟩
  | i + 7, _, hs => cases hs
theorem xa_ok {x t : Nat} {el : List eV} (h : pg_xa x = some (t, el)) (n : Nat) : e_okS n el := by
  have hi : ∀ l : List Nat, e_okS n (xInts l) := fun l v hv q => by
    obtain ⟨k, _, rfl⟩ := List.mem_map.mp hv
    cases q
  rcases xa_cases h with ⟨_, _, rfl⟩ | ⟨_, _, rfl⟩ | ⟨_, _, rfl⟩ | ⟨_, _, rfl⟩ | ⟨_, _, rfl⟩ | ⟨_, _, rfl⟩
  · exact fun v hv => absurd hv List.not_mem_nil
  · exact hi _
  · exact hi _
  · exact hi _
  · exact hi _
  · intro v hv q
    obtain ⟨j, hj⟩ := List.getElem?_of_mem hv
    rw [(ints_at hj).2] at q
    cases q
theorem any_mem {G : eG} {l : List eV} {k : Nat} {u : eV} (h : e_any G l k = some u) : u ∈ l := by
  unfold e_any at h
  split at h
  · rename_i lo hi hk
    cases hc : (Nat.ble 2147483648 lo && (Nat.ble lo hi && Nat.blt hi 2147549184))
    · rw [hc] at h; cases h
    · rw [hc, cond_true] at h
      split at h
      · rename_i v hv
        cases ha : e_allat v l (lo - 2147483648) (hi + 1 - lo)
        · rw [ha] at h; cases h
        · rw [ha] at h
          cases h
          exact get_mem hv
      · cases h
  · cases h
theorem wf_8 (hw : e_okS h.length st) (hwl : e_okLs h.length ls) (hwh : e_okH h.length h) (hs : e_step G (8, i, a, b, nx) ls st h = some r) : eWf h.length r := by
  rw [es_8] at hs
  split at hs
  · rename_i j v rest
    cases hu : e_arr h v with
    | none => rw [hu] at hs; cases hs
    | some z =>
      obtain ⟨t, el⟩ := z
      rw [hu] at hs
      have hs2 : (bif Nat.beq t i && Nat.blt j 65536 then (match e_get el j with
            | some u => bif e_tyok t u then e_go nx ls (u :: rest) h else none
            | none => none) else none) = some r := hs
      clear hs
      cases hc : (Nat.beq t i && Nat.blt j 65536)
      · rw [hc] at hs2; cases hs2
      · rw [hc, cond_true] at hs2
        cases hg2 : e_get el j with
        | none => rw [hg2] at hs2; cases hs2
        | some u =>
          rw [hg2] at hs2
          have hs3 : (bif e_tyok t u then e_go nx ls (u :: rest) h else none) = some r := hs2
          clear hs2
          cases ht : e_tyok t u
          · rw [ht] at hs3; cases hs3
          · rw [ht] at hs3
            cases hs3
            refine ⟨Nat.le_refl _, ok_cons ?_ (ok_tail (ok_tail hw)), hwl, hwh⟩
            rcases e_arr_ok hu with ⟨q, rfl, hg⟩ | ⟨x, rfl, hx⟩
            · exact hwh _ (get_mem hg) u (get_mem hg2)
            · exact xa_ok hx _ u (get_mem hg2)
  · rename_i k v rest
    cases hu : e_arr h v with
    | none => rw [hu] at hs; cases hs
    | some z =>
      obtain ⟨t, el⟩ := z
      rw [hu] at hs
      have hs2 : (bif Nat.beq t i then (match e_any G el k with
            | some u => bif e_tyok t u then e_go nx ls (u :: rest) h else none
            | none => none) else none) = some r := hs
      clear hs
      cases hc : Nat.beq t i
      · rw [hc] at hs2; cases hs2
      · rw [hc, cond_true] at hs2
        cases hg2 : e_any G el k with
        | none => rw [hg2] at hs2; cases hs2
        | some u =>
          rw [hg2] at hs2
          have hs3 : (bif e_tyok t u then e_go nx ls (u :: rest) h else none) = some r := hs2
          clear hs2
          cases ht : e_tyok t u
          · rw [ht] at hs3; cases hs3
          · rw [ht] at hs3
            cases hs3
            refine ⟨Nat.le_refl _, ok_cons ?_ (ok_tail (ok_tail hw)), hwl, hwh⟩
            rcases e_arr_ok hu with ⟨q, rfl, hg⟩ | ⟨x, rfl, hx⟩
            · exact hwh _ (get_mem hg) u (any_mem hg2)
            · exact xa_ok hx _ u (any_mem hg2)
  · cases hs
theorem set_ok {n q : Nat} {h : eH} {c9 : eC} (h1 : e_okH n h) (h2 : e_okS n c9.2.2) : e_okH n (h.set q c9) := fun c hc => by
  rcases List.mem_or_eq_of_mem_set hc with hc | rfl
  · exact h1 c hc
  · exact h2
theorem setS_ok {n q : Nat} {l : List eV} {u : eV} (h1 : e_okS n l) (h2 : e_okV n u) : e_okS n (l.set q u) := fun c hc => by
  rcases List.mem_or_eq_of_mem_set hc with hc | rfl
  · exact h1 c hc
  · exact h2
theorem wf_9 (hw : e_okS h.length st) (hwl : e_okLs h.length ls) (hwh : e_okH h.length h) (hs : e_step G (9, i, a, b, nx) ls st h = some r) : eWf h.length r := by
  rw [es_9] at hs
  split at hs
  · rename_i u q rest
    split at hs
    · rename_i c9 fs hg
      cases hc : (Nat.beq c9 a && (Nat.blt b fs.length && e_fit G i u))
      · rw [hc] at hs; cases hs
      · rw [hc] at hs
        cases hs
        have e9 : (h.set q (0, c9, fs.set b u)).length = h.length := List.length_set
        refine ⟨Nat.le_of_eq e9.symm, ?_, ?_, ?_⟩
        · show e_okS (h.set _ _).length _
          rw [e9]; exact ok_tail (ok_tail hw)
        · show e_okLs (h.set _ _).length _
          rw [e9]; exact hwl
        · show e_okH (h.set _ _).length _
          rw [e9]
          exact set_ok hwh (setS_ok (hwh _ (get_mem hg)) (ok_head hw))
    · cases hs
  · cases hs
theorem wf_10 (hw : e_okS h.length st) (hwl : e_okLs h.length ls) (hwh : e_okH h.length h) (hs : e_step G (10, i, a, b, nx) ls st h = some r) : eWf h.length r := by
  rw [es_10] at hs
  split at hs
  · rename_i u j q rest
    split at hs
    · rename_i t el hg
      cases hc : (Nat.beq t i && (Nat.blt j 65536 && (Nat.blt j el.length && (e_fit G i u && e_obj h i u))))
      · rw [hc] at hs; cases hs
      · rw [hc] at hs
        cases hs
        have e9 : (h.set q (1, t, el.set j u)).length = h.length := List.length_set
        refine ⟨Nat.le_of_eq e9.symm, ?_, ?_, ?_⟩
        · show e_okS (h.set _ _).length _
          rw [e9]; exact ok_tail (ok_tail (ok_tail hw))
        · show e_okLs (h.set _ _).length _
          rw [e9]; exact hwl
        · show e_okH (h.set _ _).length _
          rw [e9]
          exact set_ok hwh (setS_ok (hwh _ (get_mem hg)) (ok_head hw))
    · cases hs
  · cases hs
theorem wf_15 (hw : e_okS h.length st) (hwl : e_okLs h.length ls) (hwh : e_okH h.length h) (hs : e_step G (15, i, a, b, nx) ls st h = some r) : eWf h.length r := by
  rw [es_15] at hs
  cases h5 : Nat.blt i 5
  · rw [h5] at hs
    simp only [cond_false] at hs
    split at hs
    · split at hs
      · cases hs; exact ⟨Nat.le_refl _, ok_cons (fun q => by cases q) (ok_tail hw), hwl, hwh⟩
      · cases hs
    · split at hs
      · cases hs; exact ⟨Nat.le_refl _, ok_cons (fun q => by cases q) (ok_tail hw), hwl, hwh⟩
      · cases hs
    · split at hs
      · cases hs; exact ⟨Nat.le_refl _, ok_cons (fun q => by cases q) (ok_tail (ok_tail hw)), hwl, hwh⟩
      · cases hs
    · split at hs
      · cases hs; exact ⟨Nat.le_refl _, ok_cons (fun q => by cases q) (ok_tail hw), hwl, hwh⟩
      · cases hs
    · split at hs
      · cases hs; exact ⟨Nat.le_refl _, ok_cons (fun q => by cases q) (ok_tail (ok_tail hw)), hwl, hwh⟩
      · cases hs
    · cases hs
  · rw [h5] at hs
    simp only [cond_true] at hs
    split at hs
    · rename_i y x rest
      cases hv : e_lbin i x y with
      | none => rw [hv] at hs; cases hs
      | some v =>
        rw [hv] at hs
        cases hs
        refine ⟨Nat.le_refl _, ok_cons (fun q => ?_) (ok_tail (ok_tail hw)), hwl, hwh⟩
        rcases (e_lbin_ok (fun _ => 0, fun _ => 0) (fun _ => 0) hv).1 with h9 | h9 <;> (rw [h9] at q; cases q)
    · cases hs
theorem push_ok {n : Nat} {h : eH} {cs : eH} (hn : n = h.length + cs.length) (hw : e_okS h.length st) (hwl : e_okLs h.length ls) (hwh : e_okH h.length h) (hc : e_okH n cs) (hcs : 0 < cs.length) : h.length ≤ (h ++ cs).length ∧ e_okS (h ++ cs).length ((2, h.length) :: st) ∧ e_okLs (h ++ cs).length ls ∧ e_okH (h ++ cs).length (h ++ cs) := by
  have e9 : (h ++ cs).length = n := by rw [List.length_append, hn]
  rw [e9]
  refine ⟨by omega, ok_cons (fun _ => by show h.length < n; omega) (hw.mono (by omega)), hwl.mono (by omega), fun c9 hc9 => ?_⟩
  rcases List.mem_append.mp hc9 with hc9 | hc9
  · exact (hwh c9 hc9).mono (by omega)
  · exact hc c9 hc9
theorem wf_160 (hw : e_okS h.length st) (hwl : e_okLs h.length ls) (hwh : e_okH h.length h) (hs : e_step G (16, 0, a, b, nx) ls st h = some r) : eWf h.length r := by
  rw [es_160] at hs
  split at hs
  · rename_i n rest
    cases hc : Nat.blt n 65536
    · rw [hc] at hs; cases hs
    · rw [hc] at hs
      cases hs
      exact push_ok rfl (ok_tail hw) hwl hwh (fun c9 hc9 => by rw [List.mem_singleton.mp hc9]; exact rep_ok (dflt_tag a)) Nat.one_pos
  · cases hs
theorem wf_161 (hw : e_okS h.length st) (hwl : e_okLs h.length ls) (hwh : e_okH h.length h) (hs : e_step G (16, 1, a, b, nx) ls st h = some r) : eWf h.length r := by
  rw [es_161] at hs
  split at hs
  · rename_i n rest
    cases hc : Nat.blt n 65536
    · rw [hc] at hs; cases hs
    · rw [hc] at hs
      cases hs
      exact push_ok rfl (ok_tail hw) hwl hwh (fun c9 hc9 => by rw [List.mem_singleton.mp hc9]; exact rep_ok (by decide)) Nat.one_pos
  · cases hs
theorem wf_162 (hw : e_okS h.length st) (hwl : e_okLs h.length ls) (hwh : e_okH h.length h) (hs : e_step G (16, 2, a, b, nx) ls st h = some r) : eWf h.length r := by
  rw [es_162] at hs
  split at hs
  · rename_i k n rest
    cases hc : (Nat.blt n 65536 && Nat.blt k 65536)
    · rw [hc] at hs; cases hs
    · rw [hc] at hs
      cases hs
      refine push_ok rfl (ok_tail (ok_tail hw)) hwl hwh (fun c9 hc9 => ?_) (Nat.succ_pos _)
      rcases List.mem_cons.mp hc9 with rfl | hc9
      · intro v hv _
        have h2 := (rows_mem hv).2
        show v.2 < h.length + ((e_rep _ n).length + 1)
        rw [e_rep_len]
        omega
      · rw [rep_mem hc9]
        exact rep_ok (by decide)
  · cases hs
theorem wf_16 (hw : e_okS h.length st) (hwl : e_okLs h.length ls) (hwh : e_okH h.length h) (hs : e_step G (16, i, a, b, nx) ls st h = some r) : eWf h.length r := by
  match i, hs with
  | 0, hs => exact wf_160 hw hwl hwh hs
  | 1, hs => exact wf_161 hw hwl hwh hs
  | 2, hs => exact wf_162 hw hwl hwh hs
  | i + 3, hs => cases hs
end WF
theorem wf_17 {G : eG} {i a b nx : Nat} {ls : eL} {st : List eV} {h : eH} {r : eS} (hw : e_okS h.length st) (hwl : e_okLs h.length ls) (hwh : e_okH h.length h) (hs : e_step G (17, i, a, b, nx) ls st h = some r) : eWf h.length r := by
  match i, hs with
  | 0, hs =>
    rw [es_170] at hs
    split at hs
    · rename_i q rest _
      split at hs
      · cases hs
        exact ⟨Nat.le_refl _, ok_cons (fun q => absurd q (by decide)) (ok_tail hw), hwl, hwh⟩
      · cases hs
    · cases hs
  | 1, hs =>
    rw [es_171] at hs
    split at hs
    · rename_i n q q0 rest _
      split at hs
      · rename_i el fl hg0 hg
        cases hc : (Nat.ble n el.length && (Nat.ble n fl.length && (Nat.blt n 65536 && e_allobj h el)))
        · rw [hc] at hs; cases hs
        · rw [hc] at hs
          cases hs
          have e9 : (h.set q (1, 7, el.take n ++ fl.drop n)).length = h.length := List.length_set
          refine ⟨Nat.le_of_eq e9.symm, ?_, ?_, ?_⟩
          · show e_okS (h.set _ _).length _
            rw [e9]; exact ok_tail (ok_tail (ok_tail (ok_tail (ok_tail hw))))
          · show e_okLs (h.set _ _).length _
            rw [e9]; exact hwl
          · show e_okH (h.set _ _).length _
            rw [e9]
            refine set_ok hwh (fun v hv => ?_)
            rcases List.mem_append.mp hv with hv | hv
            · exact hwh _ (get_mem hg0) v (List.mem_of_mem_take hv)
            · exact hwh _ (get_mem hg) v (List.mem_of_mem_drop hv)
      · cases hs
    · cases hs
  | i + 2, hs => cases hs
theorem wf_18 {G : eG} {i a b nx : Nat} {ls : eL} {st : List eV} {h : eH} {r : eS} (hw : e_okS h.length st) (hwl : e_okLs h.length ls) (hwh : e_okH h.length h) (hs : e_step G (18, i, a, b, nx) ls st h = some r) : eWf h.length r := by
  rw [es_18] at hs
  split at hs
  · rename_i j q rest
    rw [Bool.cond_eq_ite] at hs
    split at hs
    · cases hs
      exact ⟨Nat.le_refl _, ok_cons (fun q => absurd (show (4 : Nat) = 2 from q) (by decide)) (ok_tail (ok_tail hw)), hwl, hwh⟩
    · cases hs
  · cases hs
