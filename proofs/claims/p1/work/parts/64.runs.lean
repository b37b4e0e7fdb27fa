/-! runs: soundness of the abstract machine -/
def PGok : Prop := (∀ y pc, e_ok (m_d y) pc (pg_op y pc)) ∧ (∀ y, pg_ml y = (m_d y).2.2.1) ∧ (∀ y, pg_nt y = true → (m_d y).2.2.2.2 = []) ∧ (∀ y pc E k nx, pg_hn y pc E = some (k, nx) → okCatch (m_d y) pc E k nx) ∧ (∀ y r, vwCl[pg_cl y]? = some r → r.1 = (m_d y).1.cls) ∧ ∀ y, (plainName (m_d y).1.cls || ((m_d y).2.2.2.2.isEmpty && plainFor (m_d y).1)) = true
theorem emax_l {a b : Nat} (h : b ≤ a) : e_max a b = a := by
  unfold e_max
  cases hc : Nat.ble a b
  · rfl
  · have := Nat.le_of_ble_eq_true hc
    show b = a
    omega
theorem go2_eq {rc : eRec} {y c s f w : Nat} {r : Option eS} : e_go2 rc y c s f w r = (match r with
    | some (nx, ls', st', h', dc, ds, df, dw) => rc y nx ls' st' h' (c + dc) (s + ds) (e_max f df) (e_max w dw)
    | none => none) := by
  cases r with
  | none => rfl
  | some r =>
    obtain ⟨nx, ls', st', h', dc, ds, df, dw⟩ := r
    cases dc with
    | succ _ => rfl
    | zero =>
      cases ds with
      | succ _ => rfl
      | zero =>
        cases df with
        | succ _ => rfl
        | zero =>
          cases dw with
          | succ _ => rfl
          | zero =>
            show rc y nx ls' st' h' c s f w = rc y nx ls' st' h' (c + 0) (s + 0) (e_max f 0) (e_max w 0)
            rw [emax_l (Nat.zero_le f), emax_l (Nat.zero_le w)]
            rfl
theorem call2_eq {rc : eRec} {i a nx y pc : Nat} {ls : eL} {rest : List eV} {c s f w : Nat} {r : Option eR} : e_call2 rc i a nx y pc ls rest c s f w r = (match r with
    | some (0, _, _, vs, h', c', s', f', w') => bif Nat.blt vs.length 2 then rc y nx ls (vs ++ rest) h' (c + c') (s + s') (e_max f (f' + 1)) (e_max w (19 + pg_ml a + w')) else none
    | some (1, E, _, _, h', c', s', f', w') => bif Nat.beq i 0 || Nat.beq i 2 then (match pg_hn y pc E with
      | some (k, nx') => rc y nx' (e_drop1 k ls) [] h' (c + c') (s + s') (e_max f (f' + 1)) (e_max w (19 + pg_ml a + w'))
      | none => bif pg_nt y then some (1, E, [], [], h', c + c', s + s', e_max f (f' + 1), e_max w (19 + pg_ml a + w')) else none) else none
    | _ => none) := by
  cases r with
  | none => rfl
  | some r =>
    obtain ⟨k, E, l9, vs, h', c', s', f', w'⟩ := r
    match k with
    | 0 =>
      cases c' with
      | succ _ => rfl
      | zero =>
        cases s' with
        | succ _ => rfl
        | zero =>
          show (bif Nat.blt vs.length 2 then (bif Nat.ble (f' + 1) f && Nat.ble (19 + pg_ml a + w') w then rc y nx ls (vs ++ rest) h' c s f w else rc y nx ls (vs ++ rest) h' (c + 0) (s + 0) (e_max f (f' + 1)) (e_max w (19 + pg_ml a + w'))) else none) = (bif Nat.blt vs.length 2 then rc y nx ls (vs ++ rest) h' (c + 0) (s + 0) (e_max f (f' + 1)) (e_max w (19 + pg_ml a + w')) else none)
          cases hc : (Nat.ble (f' + 1) f && Nat.ble (19 + pg_ml a + w') w)
          · rfl
          · rw [Bool.and_eq_true] at hc
            rw [emax_l (Nat.le_of_ble_eq_true hc.1), emax_l (Nat.le_of_ble_eq_true hc.2)]
            rfl
    | 1 => rfl
    | k + 2 => rfl
theorem call_eq {K : List eK} {rc : eRec} {i a b nx y pc : Nat} {ls : eL} {st : List eV} {h : eH} {c s f w : Nat} : e_call K rc i a b nx y pc ls st h c s f w = (bif Nat.ble b st.length && (e_recv i a h (st.take b).reverse && (Nat.ble (e_cat (st.drop b)) 8 && Nat.ble (e_cat (st.take b).reverse) (pg_ml a))) then e_call2 rc i a nx y pc ls (st.drop b) c s f w (k_or (k_look K a (st.take b).reverse h) (rc a 0 (e_args 0 (st.take b).reverse) [] h 0 0 0 0)) else none) := by
  unfold e_call e_call1
  cases Nat.ble b st.length
  · rfl
  · rfl
theorem run_eq {G : eG} {K : List eK} {n y pc : Nat} {ls : eL} {st : List eV} {h : eH} {c s f w : Nat} : e_run G K (n + 1) y pc ls st h c s f w = (match pg_op y pc with
    | (11, i, a, b, nx) =>
      let as := (st.take b).reverse
      let rest := st.drop b
      bif Nat.ble b st.length && (e_recv i a h as && (Nat.ble (e_cat rest) 8 && Nat.ble (e_cat as) (pg_ml a))) then
        (match k_or (k_look K a as h) (e_run G K n a 0 (e_args 0 as) [] h 0 0 0 0) with
        | some (0, _, _, vs, h', c', s', f', w') => bif Nat.blt vs.length 2 then e_run G K n y nx ls (vs ++ rest) h' (c + c') (s + s') (e_max f (f' + 1)) (e_max w (19 + pg_ml a + w')) else none
        | some (1, E, _, _, h', c', s', f', w') => bif Nat.beq i 0 || Nat.beq i 2 then (match pg_hn y pc E with
          | some (k, nx') => e_run G K n y nx' (e_drop1 k ls) [] h' (c + c') (s + s') (e_max f (f' + 1)) (e_max w (19 + pg_ml a + w'))
          | none => bif pg_nt y then some (1, E, [], [], h', c + c', s + s', e_max f (f' + 1), e_max w (19 + pg_ml a + w')) else none) else none
        | _ => none) else none
    | (12, i, _, _, _) => match i with
      | 0 => match st with
        | [] => some (0, 0, [], [], h, c, s, f, w)
        | _ => none
      | _ => match st with
        | [v] => bif e_rk i v then some (0, 0, [], [v], h, c, s, f, w) else none
        | _ => none
    | (13, _, E, _, _) => bif pg_nt y then some (1, E, [], [], h, c + 1, s + 6, e_max f 8, e_max w (e_cat st + 120)) else none
    | (14, _, _, _, _) => some (2, pc, ls, st, h, c, s, f, w)
    | o => match e_step G o ls st h with
      | some (nx, ls', st', h', dc, ds, df, dw) => e_run G K n y nx ls' st' h' (c + dc) (s + ds) (e_max f df) (e_max w dw)
      | none => none) := by
  show e_at G K (e_run G K n) (pg_op y pc) y pc ls st h c s f w = _
  generalize pg_op y pc = o
  obtain ⟨g, i, a, b, nx⟩ := o
  match g with
  | 0 => exact go2_eq
  | 1 => exact go2_eq
  | 2 => exact go2_eq
  | 3 => exact go2_eq
  | 4 => exact go2_eq
  | 5 => exact go2_eq
  | 6 => exact go2_eq
  | 7 => exact go2_eq
  | 8 => exact go2_eq
  | 9 => exact go2_eq
  | 10 => exact go2_eq
  | 11 =>
    refine (call_eq : e_call K (e_run G K n) i a b nx y pc ls st h c s f w = _).trans ?_
    rw [call2_eq]
    rfl
  | 12 => rfl
  | 13 => rfl
  | 14 => rfl
  | g + 15 => exact go2_eq
theorem max_l (a b : Nat) : a ≤ e_max a b := by
  unfold e_max
  cases hc : Nat.ble a b
  · exact Nat.le_refl a
  · exact Nat.le_of_ble_eq_true hc
theorem max_r (a b : Nat) : b ≤ e_max a b := by
  unfold e_max
  cases hc : Nat.ble a b
  · have : ¬ a ≤ b := fun q => by rw [Nat.ble_eq_true_of_le q] at hc; cases hc
    show b ≤ a
    omega
  · exact Nat.le_refl b
/-- one step, of any kind -/
theorem step_all {D : eD} {p : Program} {l : Launch} {e : Env} {R : Room} {s : State} {m : MethodId} {args : Array Value} {below : List Frame} {meth : Method} {c : Code} {X : eX} {cA : Nat → ClassId} {Dg : va_G} {A : Nat → Prop} {Q : State → Prop} {G : eG} {pc : Nat} {ls : eL} {st : List eV} {h : eH} {cells slots : Nat} {ρ : Nat → Nat} {H : Heap} {locs : List Loc} {o : eO} {r : eS}
    (hG : e_ok0 X G) (hF : eFix p s m args meth c D X cA Dg A) (hok : e_ok D pc o) (hs : e_step G o ls st h = some r) (hw : e_okS h.length st) (hwl : e_okLs h.length ls) (hwh : e_okH h.length h) (hRc : cells + r.2.2.2.2.1 ≤ R.cells) (hRs : slots + r.2.2.2.2.2.1 ≤ R.slots) (hRf : r.2.2.2.2.2.2.1 ≤ R.frames) (hRw : r.2.2.2.2.2.2.2 ≤ R.locals)
    (kk : eNext D p l e R s m args below meth c X cA Dg A Q ρ h.length r cells slots) : eGo D p l e R s m args below meth c X cA Dg A Q pc ls st h cells slots ρ H locs := by
  obtain ⟨g, i, a, b, nx⟩ := o
  match g, hok, hs with
  | 0, hok, hs => exact step_0 hF hok hs kk
  | 1, hok, hs => exact step_1 hF hok hs kk
  | 2, hok, hs => exact step_2 hF hok hs kk
  | 3, hok, hs => exact step_3 hG hF hok hs kk
  | 4, hok, hs => exact step_4 hG hF hok hs kk
  | 5, hok, hs => exact step_5 hG hF hok hs kk
  | 6, hok, hs => exact step_6 hG hF hok hs kk
  | 7, hok, hs =>
    match i, hok, hs with
    | 0, hok, hs => exact step_70 hF hok hs hw hwl hwh hRc hRs hRf hRw kk
    | 1, hok, hs => exact step_71 hF hok hs hw hwl hwh hRc hRs hRf hRw kk
    | 2, hok, hs => exact step_72 hF hok hs hw hwl hwh hRc hRs hRf hRw kk
    | 3, hok, hs => exact step_73 hF hok hs hw hwl hwh hRc hRs hRf hRw kk
    | 4, hok, hs => exact step_74 hF hok hs hw hwl hwh hRc hRs hRf hRw kk
    | 5, hok, hs => exact step_75 hF hok hs hw hwl hwh hRc hRs hRf hRw kk
    | 6, hok, hs => exact step_76 hF hok hs hw hwl hwh hRc hRs hRf hRw kk
    | i + 7, hok, hs => cases hs
  | 8, hok, hs => exact step_8 hG hF hok hs hw hwl hwh hRc hRs hRf hRw kk
  | 9, hok, hs => exact step_9 hG hF hok hs hw hwl hwh hRc hRs hRf hRw kk
  | 10, hok, hs => exact step_10 hG hF hok hs hw hwl hwh hRc hRs hRf hRw kk
  | 11, hok, hs => cases hs
  | 12, hok, hs => cases hs
  | 13, hok, hs => cases hs
  | 14, hok, hs => cases hs
  | 15, hok, hs => exact step_15 hF hok hs hw hwl hwh hRc hRs hRf hRw kk
  | 16, hok, hs =>
    match i, hok, hs with
    | 0, hok, hs => exact step_160 hF hok hs hw hwl hwh hRc hRs kk
    | 1, hok, hs => exact step_161 hF hok hs hw hwl hwh hRc hRs kk
    | 2, hok, hs => exact step_162 hF hok hs hw hwl hwh hRc hRs kk
    | i + 3, hok, hs => cases hs
  | 17, hok, hs => exact step_17 hF hok hs hRf hRw kk
  | 18, hok, hs => exact step_18 hG hF hok hs hRc hRs hRf hRw kk
  | g + 19, hok, hs => cases hs
theorem wf_all {D : eD} {pc : Nat} {X : eX} {G : eG} {o : eO} {ls : eL} {st : List eV} {h : eH} {r : eS} (hG : e_ok0 X G) (hok : e_ok D pc o) (hs : e_step G o ls st h = some r) (hw : e_okS h.length st) (hwl : e_okLs h.length ls) (hwh : e_okH h.length h) : eWf h.length r := by
  obtain ⟨g, i, a, b, nx⟩ := o
  match g, hok, hs with
  | 0, hok, hs => exact wf_0 hw hwl hwh hs
  | 1, hok, hs => exact wf_1 hw hwl hwh hs
  | 2, hok, hs => exact wf_2 hw hwl hwh hs
  | 3, hok, hs => exact wf_3 hw hwl hwh ⟨X, hG⟩ hs
  | 4, hok, hs => exact wf_4 hw hwl hwh ⟨X, hG⟩ hs
  | 5, hok, hs => exact wf_5 hw hwl hwh hs
  | 6, hok, hs => exact wf_6 hw hwl hwh hs
  | 7, hok, hs => exact wf_7 hw hwl hwh (fun q => by subst q; exact hok.2) hs
  | 8, hok, hs => exact wf_8 hw hwl hwh hs
  | 9, hok, hs => exact wf_9 hw hwl hwh hs
  | 10, hok, hs => exact wf_10 hw hwl hwh hs
  | 11, hok, hs => cases hs
  | 12, hok, hs => cases hs
  | 13, hok, hs => cases hs
  | 14, hok, hs => cases hs
  | 15, hok, hs => exact wf_15 hw hwl hwh hs
  | 16, hok, hs => exact wf_16 hw hwl hwh hs
  | 17, hok, hs => exact wf_17 hw hwl hwh hs
  | 18, hok, hs => exact wf_18 hw hwl hwh hs
  | g + 19, hok, hs => cases hs
/-- what a run's end speaks of; its counts never fall -/
def eWr (n : Nat) (r : eR) (c s f w : Nat) : Prop := n ≤ r.2.2.2.2.1.length ∧ e_okS r.2.2.2.2.1.length r.2.2.2.1 ∧ e_okLs r.2.2.2.2.1.length r.2.2.1 ∧ e_okH r.2.2.2.2.1.length r.2.2.2.2.1 ∧ c ≤ r.2.2.2.2.2.1 ∧ s ≤ r.2.2.2.2.2.2.1 ∧ f ≤ r.2.2.2.2.2.2.2.1 ∧ w ≤ r.2.2.2.2.2.2.2.2
theorem args_ok {n : Nat} : ∀ {as : List eV} {i : Nat}, e_okS n as → e_okLs n (e_args i as)
  | [], _, _ => fun _ h => absurd h List.not_mem_nil
  | v :: t, i, h => List.forall_mem_cons.mpr ⟨ok_head h, args_ok (ok_tail h)⟩
theorem eWr.mono {n n' c c' s s' f f' w w' : Nat} {r : eR} (h : eWr n r c s f w) (h1 : n' ≤ n) (h2 : c' ≤ c) (h3 : s' ≤ s) (h4 : f' ≤ f) (h5 : w' ≤ w) : eWr n' r c' s' f' w' := ⟨Nat.le_trans h1 h.1, h.2.1, h.2.2.1, h.2.2.2.1, Nat.le_trans h2 h.2.2.2.2.1, Nat.le_trans h3 h.2.2.2.2.2.1, Nat.le_trans h4 h.2.2.2.2.2.2.1, Nat.le_trans h5 h.2.2.2.2.2.2.2⟩
theorem q_v_eq {u v : eV} (h : q_v u v = true) : u = v := by
  obtain ⟨a, b⟩ := u
  obtain ⟨a', b'⟩ := v
  unfold q_v at h
  simp only [Bool.and_eq_true] at h
  have h1 := beqE h.1
  have h2 := beqE h.2
  subst h1; subst h2
  rfl
theorem q_s_eq : ∀ {l l' : List eV}, q_s l l' = true → l = l'
  | [], [], _ => rfl
  | u :: t, v :: t', h => by
    have h : (q_v u v && q_s t t') = true := h
    rw [Bool.and_eq_true] at h
    rw [q_v_eq h.1, q_s_eq h.2]
  | [], _ :: _, h => by cases h
  | _ :: _, [], h => by cases h
theorem q_h_eq : ∀ {h h' : eH}, q_h h h' = true → h = h'
  | [], [], _ => rfl
  | (a, b, l) :: t, (a', b', l') :: t', h => by
    have h : (Nat.beq a a' && (Nat.beq b b' && (q_s l l' && q_h t t'))) = true := h
    simp only [Bool.and_eq_true] at h
    have h1 := beqE h.1
    have h2 := beqE h.2.1
    subst h1; subst h2
    rw [q_s_eq h.2.2.1, q_h_eq h.2.2.2]
  | [], _ :: _, h => by cases h
  | _ :: _, [], h => by cases h
/-- the known calls speak of their own worlds alone -/
def kWf (K : List eK) : Prop := ∀ k ∈ K, eWr k.2.2.1.length ((0, 0, [], k.2.2.2.2.2.2.1, k.2.2.2.2.2.2.2.1, k.2.2.2.2.2.2.2.2) : eR) 0 0 0 0
theorem look_ok {K : List eK} {a : Nat} {as : List eV} {h : eH} {r : eR} (hk : k_look K a as h = some r) : ∃ q j n, (a, as, h, q, j, n, r.2.2.2.1, r.2.2.2.2.1, r.2.2.2.2.2) ∈ K ∧ r = (0, 0, [], r.2.2.2.1, r.2.2.2.2.1, r.2.2.2.2.2) := by
  induction K with
  | nil => cases hk
  | cons k t ih =>
    obtain ⟨a', as', h0, q, j, n, vs, h1, c, s, f, w⟩ := k
    unfold k_look at hk
    cases hc : (Nat.beq a a' && (k_key h q j n && (q_s as as' && q_h h h0)))
    · rw [hc] at hk
      obtain ⟨q', j', n', hm, he⟩ := ih hk
      exact ⟨q', j', n', List.mem_cons_of_mem _ hm, he⟩
    · rw [hc] at hk
      simp only [Bool.and_eq_true] at hc
      cases hk
      have e1 := beqE hc.1
      have e2 := q_s_eq hc.2.2.1
      have e3 := q_h_eq hc.2.2.2
      subst e1; subst e2; subst e3
      exact ⟨q, j, n, List.mem_cons_self, rfl⟩
theorem or_ok {x y : Option eR} {r : eR} (h : k_or x y = some r) : x = some r ∨ y = some r := by
  cases x with
  | none => exact Or.inr h
  | some r' => exact Or.inl h
theorem cal_wf {G : eG} {K : List eK} {n a : Nat} {as : List eV} {h : eH} {r : eR} (ih : ∀ r : eR, e_run G K n a 0 (e_args 0 as) [] h 0 0 0 0 = some r → e_okS h.length [] → e_okLs h.length (e_args 0 as) → e_okH h.length h → eWr h.length r 0 0 0 0) (hKw : kWf K) (hc : k_or (k_look K a as h) (e_run G K n a 0 (e_args 0 as) [] h 0 0 0 0) = some r) (hwa : e_okS h.length as) (hwh : e_okH h.length h) : eWr h.length r 0 0 0 0 := by
  rcases or_ok hc with hc | hc
  · obtain ⟨q, j, n, hm, he⟩ := look_ok hc
    have := hKw _ hm
    rw [he]
    exact this
  · exact ih r hc (fun _ h => absurd h List.not_mem_nil) (args_ok hwa) hwh
theorem run_wf (PG : PGok) {X : eX} {G : eG} {K : List eK} (hG : e_ok0 X G) (hKw : kWf K) : ∀ (n y pc : Nat) (ls : eL) (st : List eV) (h : eH) (c s f w : Nat) (r : eR), e_run G K n y pc ls st h c s f w = some r → e_okS h.length st → e_okLs h.length ls → e_okH h.length h → eWr h.length r c s f w := by
  intro n
  induction n with
  | zero => intro y pc ls st h c s f w r hr; cases hr
  | succ n ih =>
    intro y pc ls st h c s f w r hr hw hwl hwh
    have hok := PG.1 y pc
    rw [run_eq] at hr
    split at hr
    · rename_i i a b nx ho
      dsimp only at hr
      cases hc : (Nat.ble b st.length && (e_recv i a h (st.take b).reverse && (Nat.ble (e_cat (st.drop b)) 8 && Nat.ble (e_cat (st.take b).reverse) (pg_ml a))))
      · rw [hc] at hr; cases hr
      · rw [hc, cond_true] at hr
        have hwa : e_okS h.length (st.take b).reverse := fun v hv => hw v (List.mem_of_mem_take (List.mem_reverse.mp hv))
        have hwd : e_okS h.length (st.drop b) := fun v hv => hw v (List.mem_of_mem_drop hv)
        split at hr
        · rename_i x9 l9 vs h' c' s' f' w' hcall
          obtain ⟨a1, a2, a3, a4, a5, a6, a7, a8⟩ := cal_wf (fun r9 => ih a 0 _ _ h 0 0 0 0 r9) hKw hcall hwa hwh
          cases hv2 : Nat.blt vs.length 2
          · rw [hv2] at hr; cases hr
          · rw [hv2, cond_true] at hr
            have h2 := ih y nx ls _ h' _ _ _ _ r hr (fun v hv => (List.mem_append.mp hv).elim (a2 v) (fun q => (hwd v q).mono a1)) (hwl.mono a1) a4
            exact h2.mono a1 (by omega) (by omega) (max_l _ _) (max_l _ _)
        · rename_i E x9 l9 h' c' s' f' w' hcall
          obtain ⟨a1, a2, a3, a4, a5, a6, a7, a8⟩ := cal_wf (fun r9 => ih a 0 _ _ h 0 0 0 0 r9) hKw hcall hwa hwh
          cases hi : (Nat.beq i 0 || Nat.beq i 2)
          · rw [hi] at hr; cases hr
          · rw [hi, cond_true] at hr
            split at hr
            · rename_i k nx' hh
              have h2 := ih y nx' _ [] h' _ _ _ _ r hr (fun _ h => absurd h List.not_mem_nil) (fun q hq => (hwl.mono a1) q (drop1_sub hq)) a4
              exact h2.mono a1 (by omega) (by omega) (max_l _ _) (max_l _ _)
            · cases hn : pg_nt y
              · rw [hn] at hr; cases hr
              · rw [hn] at hr
                cases hr
                exact ⟨a1, fun _ h => absurd h List.not_mem_nil, fun _ h => absurd h List.not_mem_nil, a4, by show c ≤ c + c'; omega, by show s ≤ s + s'; omega, max_l _ _, max_l _ _⟩
        · cases hr
    · split at hr
      · split at hr
        · cases hr
          exact ⟨Nat.le_refl _, fun _ h => absurd h List.not_mem_nil, fun _ h => absurd h List.not_mem_nil, hwh, Nat.le_refl _, Nat.le_refl _, Nat.le_refl _, Nat.le_refl _⟩
        · cases hr
      · split at hr
        · rw [Bool.cond_eq_ite] at hr
          split at hr
          · cases hr
            exact ⟨Nat.le_refl _, hw, fun _ h => absurd h List.not_mem_nil, hwh, Nat.le_refl _, Nat.le_refl _, Nat.le_refl _, Nat.le_refl _⟩
          · cases hr
        · cases hr
    · cases hn : pg_nt y
      · rw [hn] at hr; cases hr
      · rw [hn] at hr
        cases hr
        exact ⟨Nat.le_refl _, fun _ h => absurd h List.not_mem_nil, fun _ h => absurd h List.not_mem_nil, hwh, Nat.le_add_right c 1, Nat.le_add_right s 6, max_l _ _, max_l _ _⟩
    · cases hr
      exact ⟨Nat.le_refl _, hw, hwl, hwh, Nat.le_refl _, Nat.le_refl _, Nat.le_refl _, Nat.le_refl _⟩
    · split at hr
      · rename_i nx ls' st' h' dc ds df dw hs
        obtain ⟨b1, b2, b3, b4⟩ := wf_all hG hok hs hw hwl hwh
        exact (ih y nx ls' st' h' _ _ _ _ r hr b2 b3 b4).mono b1 (by omega) (by omega) (max_l _ _) (max_l _ _)
      · cases hr
/-- what a run's end gives -/
def eFin (D : eD) (p : Program) (l : Launch) (e : Env) (R : Room) (s : State) (m : MethodId) (args : Array Value) (below : List Frame) (meth : Method) (c : Code) (X : eX) (cA : Nat → ClassId) (Dg : va_G) (A : Nat → Prop) (Q : State → Prop) (n : Nat) (ρ : Nat → Nat) (r : eR) : Prop := match r.1 with
  | 0 => ∃ (Qc : Array Value → State → Outcome → State → Prop) (XC : String → State → State → Prop) (mc ms : Nat) (free : Addr → Prop), Q = vx_MQ below Qc XC args s mc ms free ∧ r.2.2.2.2.2.1 ≤ mc ∧ r.2.2.2.2.2.2.1 ≤ ms ∧ (∀ q, A q → free q) ∧
      ∀ (ρ' : Nat → Nat) (t : State) (locs' : List Loc), (∀ k, k < n → ρ' k = ρ k) → va_P Dg vwCl (c_w X cA ρ' 0 r.2.2.2.2.1) t.heap → va_D A (c_w X cA ρ' 0 r.2.2.2.2.1) → va_S A s.heap t.heap locs' → s.WarmedH t.vm → Qc args s (.returned (r.2.2.2.1.map (c_v X ρ')).head?) t
  | 1 => ∃ (Qc : Array Value → State → Outcome → State → Prop) (XC : String → State → State → Prop) (mc ms : Nat) (free : Addr → Prop), Q = vx_MQ below Qc XC args s mc ms free ∧ r.2.2.2.2.2.1 ≤ mc ∧ r.2.2.2.2.2.2.1 ≤ ms ∧ (∀ q, A q → free q) ∧
      ∀ (ρ' : Nat → Nat) (t : State) (locs' : List Loc), (∀ k, k < n → ρ' k = ρ k) → va_P Dg vwCl (c_w X cA ρ' 0 r.2.2.2.2.1) t.heap → va_D A (c_w X cA ρ' 0 r.2.2.2.2.1) → va_S A s.heap t.heap locs' → s.vm.Alike t.vm → XC (eName r.2.1) s t
  | _ => ∀ (ρ' : Nat → Nat) (H' : Heap) (locs' : List Loc), (∀ k, k < n → ρ' k = ρ k) → eGo D p l e R s m args below meth c X cA Dg A Q r.2.1 r.2.2.1 r.2.2.2.1 r.2.2.2.2.1 r.2.2.2.2.2.1 r.2.2.2.2.2.2.1 ρ' H' locs'
theorem eFin.mono {D : eD} {p : Program} {l : Launch} {e : Env} {R : Room} {s : State} {m : MethodId} {args : Array Value} {below : List Frame} {meth : Method} {c : Code} {X : eX} {cA : Nat → ClassId} {Dg : va_G} {A : Nat → Prop} {Q : State → Prop} {n n' : Nat} {ρ ρ' : Nat → Nat} {r : eR} (h : eFin D p l e R s m args below meth c X cA Dg A Q n ρ r) (hn : n ≤ n') (hρ : ∀ k, k < n → ρ' k = ρ k) : eFin D p l e R s m args below meth c X cA Dg A Q n' ρ' r := by
  have tr : ∀ ρ2 : Nat → Nat, (∀ k, k < n' → ρ2 k = ρ' k) → ∀ k, k < n → ρ2 k = ρ k := fun ρ2 h2 k hk => (h2 k (Nat.lt_of_lt_of_le hk hn)).trans (hρ k hk)
  obtain ⟨k, x, ls, st, hh, c9, s9, f9, w9⟩ := r
  match k, h with
  | 0, ⟨Qc, XC, mc, ms, free, h1, h2, h3, h4, h5⟩ => exact ⟨Qc, XC, mc, ms, free, h1, h2, h3, h4, fun ρ2 t locs' hr => h5 ρ2 t locs' (tr ρ2 hr)⟩
  | 1, ⟨Qc, XC, mc, ms, free, h1, h2, h3, h4, h5⟩ => exact ⟨Qc, XC, mc, ms, free, h1, h2, h3, h4, fun ρ2 t locs' hr => h5 ρ2 t locs' (tr ρ2 hr)⟩
  | k + 2, h => exact fun ρ2 H' locs' hr => h ρ2 H' locs' (tr ρ2 hr)
