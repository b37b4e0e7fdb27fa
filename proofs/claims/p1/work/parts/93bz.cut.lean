/-! a run, cut where a method's frame comes to a place with a number in a local -/
noncomputable def e_cut (G : eG) (K : List eK) (y0 p0 i0 v0 : Nat) (n : Nat) : eRec := Nat.rec (motive := fun _ => eRec) (fun _ _ _ _ _ _ _ _ _ => none) (fun _ ih y pc ls st h c s f w => bif Nat.beq pc p0 && (Nat.beq y y0 && e_is (0, v0) (e_look ls i0)) then some (2, pc, ls, st, h, c, s, f, w) else e_at G K ih (pg_op y pc) y pc ls st h c s f w) n
def c_ih (rc rc' : eRec) (T : Nat → eR → eR → Prop) : Prop := ∀ (y pc : Nat) (ls : eL) (st : List eV) (h : eH) (c s f w : Nat) (r R : eR), rc y pc ls st h c s f w = some r → T y r R → rc' y pc ls st h c s f w = some R
def c_t0 (T : Nat → eR → eR → Prop) : Prop := ∀ (y : Nat) (r R : eR), r.1 ≠ 2 → T y r R → R = r
def c_t1 (T : Nat → eR → eR → Prop) : Prop := ∀ (y : Nat) (r : eR), r.1 ≠ 2 → T y r r
section CUT
variable {G : eG} {K : List eK} {rc rc' : eRec} {T : Nat → eR → eR → Prop}
theorem go_mono (ih : c_ih rc rc' T) {y c s f w : Nat} {x : Option eS} {r R : eR} (hr : e_go2 rc y c s f w x = some r) (hT : T y r R) : e_go2 rc' y c s f w x = some R := by
  rw [go2_eq] at hr ⊢
  cases x with
  | none => cases hr
  | some x =>
    obtain ⟨nx, ls', st', h', dc, ds, df, dw⟩ := x
    exact ih _ _ _ _ _ _ _ _ _ _ _ hr hT
theorem call2_mono (hT0 : c_t0 T) (ih : c_ih rc rc' T) {i a nx y pc : Nat} {ls : eL} {rest : List eV} {c s f w : Nat} {r0 r0' : Option eR} (h0 : ∀ q, r0 = some q → q.1 ≠ 2 → r0' = some q) {r R : eR} (hr : e_call2 rc i a nx y pc ls rest c s f w r0 = some r) (hT : T y r R) : e_call2 rc' i a nx y pc ls rest c s f w r0' = some R := by
  rw [call2_eq] at hr ⊢
  cases r0 with
  | none => cases hr
  | some q =>
    obtain ⟨k, E, l9, vs, h', c', s', f', w'⟩ := q
    match k, h0, hr with
    | 0, h0, hr =>
      rw [h0 _ rfl (by show (0 : Nat) ≠ 2; decide)]
      have hr : (bif Nat.blt vs.length 2 then rc y nx ls (vs ++ rest) h' (c + c') (s + s') (e_max f (f' + 1)) (e_max w (19 + pg_ml a + w')) else none) = some r := hr
      show (bif Nat.blt vs.length 2 then rc' y nx ls (vs ++ rest) h' (c + c') (s + s') (e_max f (f' + 1)) (e_max w (19 + pg_ml a + w')) else none) = some R
      cases hv : Nat.blt vs.length 2
      · rw [hv] at hr; cases hr
      · rw [hv, cond_true] at hr
        rw [cond_true]
        exact ih _ _ _ _ _ _ _ _ _ _ _ hr hT
    | 1, h0, hr =>
      rw [h0 _ rfl (by show (1 : Nat) ≠ 2; decide)]
      have hr : (bif Nat.beq i 0 || Nat.beq i 2 then (match pg_hn y pc E with
        | some (k, nx') => rc y nx' (e_drop1 k ls) [] h' (c + c') (s + s') (e_max f (f' + 1)) (e_max w (19 + pg_ml a + w'))
        | none => bif pg_nt y then some (1, E, [], [], h', c + c', s + s', e_max f (f' + 1), e_max w (19 + pg_ml a + w')) else none) else none) = some r := hr
      show (bif Nat.beq i 0 || Nat.beq i 2 then (match pg_hn y pc E with
        | some (k, nx') => rc' y nx' (e_drop1 k ls) [] h' (c + c') (s + s') (e_max f (f' + 1)) (e_max w (19 + pg_ml a + w'))
        | none => bif pg_nt y then some (1, E, [], [], h', c + c', s + s', e_max f (f' + 1), e_max w (19 + pg_ml a + w')) else none) else none) = some R
      cases hi : (Nat.beq i 0 || Nat.beq i 2)
      · rw [hi] at hr; cases hr
      · rw [hi, cond_true] at hr
        rw [cond_true]
        cases hh : pg_hn y pc E with
        | some z =>
          obtain ⟨k, nx'⟩ := z
          rw [hh] at hr
          exact ih _ _ _ _ _ _ _ _ _ _ _ hr hT
        | none =>
          rw [hh] at hr
          dsimp only at hr ⊢
          cases hn : pg_nt y
          · rw [hn] at hr; cases hr
          · rw [hn, cond_true] at hr
            rw [cond_true]
            cases hr
            rw [hT0 _ _ _ (by show (1 : Nat) ≠ 2; decide) hT]
    | k + 2, _, hr => cases hr
theorem or_mono (hT1 : c_t1 T) (ih : c_ih rc rc' T) {x : Option eR} {a : Nat} {l : eL} {h : eH} : ∀ q, k_or x (rc a 0 l [] h 0 0 0 0) = some q → q.1 ≠ 2 → k_or x (rc' a 0 l [] h 0 0 0 0) = some q := fun q hq h2 => by
  cases x with
  | some r => exact hq
  | none => exact ih _ _ _ _ _ _ _ _ _ _ _ hq (hT1 _ _ h2)
theorem call_mono (hT0 : c_t0 T) (hT1 : c_t1 T) (ih : c_ih rc rc' T) {i a b nx y pc : Nat} {ls : eL} {st : List eV} {h : eH} {c s f w : Nat} {r R : eR} (hr : e_call K rc i a b nx y pc ls st h c s f w = some r) (hT : T y r R) : e_call K rc' i a b nx y pc ls st h c s f w = some R := by
  rw [call_eq] at hr ⊢
  cases hc : (Nat.ble b st.length && (e_recv i a h (st.take b).reverse && (Nat.ble (e_cat (st.drop b)) 8 && Nat.ble (e_cat (st.take b).reverse) (pg_ml a))))
  · rw [hc] at hr; cases hr
  · rw [hc, cond_true] at hr
    rw [cond_true]
    exact call2_mono hT0 ih (or_mono hT1 ih) hr hT
theorem at_mono (hT0 : c_t0 T) (hT1 : c_t1 T) (h14 : ∀ {y pc : Nat} {ls : eL} {st : List eV} {h : eH} {c s f w : Nat} {R : eR} {i a b nx : Nat}, pg_op y pc = (14, i, a, b, nx) → T y (2, pc, ls, st, h, c, s, f, w) R → R = (2, pc, ls, st, h, c, s, f, w)) (ih : c_ih rc rc' T) {y pc : Nat} {ls : eL} {st : List eV} {h : eH} {c s f w : Nat} {r R : eR} (hr : e_at G K rc (pg_op y pc) y pc ls st h c s f w = some r) (hT : T y r R) : e_at G K rc' (pg_op y pc) y pc ls st h c s f w = some R := by
  generalize ho : pg_op y pc = o at hr ⊢
  obtain ⟨g, i, a, b, nx⟩ := o
  match g, ho, hr with
  | 0, _, hr => exact go_mono ih hr hT
  | 1, _, hr => exact go_mono ih hr hT
  | 2, _, hr => exact go_mono ih hr hT
  | 3, _, hr => exact go_mono ih hr hT
  | 4, _, hr => exact go_mono ih hr hT
  | 5, _, hr => exact go_mono ih hr hT
  | 6, _, hr => exact go_mono ih hr hT
  | 7, _, hr => exact go_mono ih hr hT
  | 8, _, hr => exact go_mono ih hr hT
  | 9, _, hr => exact go_mono ih hr hT
  | 10, _, hr => exact go_mono ih hr hT
  | 11, _, hr => exact call_mono hT0 hT1 ih hr hT
  | 12, _, hr =>
    have hr : e_rets i st h c s f w = some r := hr
    have h2 : r.1 ≠ 2 := by
      unfold e_rets at hr
      split at hr
      · split at hr
        · cases hr; show (0 : Nat) ≠ 2; decide
        · cases hr
      · split at hr
        · rw [Bool.cond_eq_ite] at hr
          split at hr
          · cases hr; show (0 : Nat) ≠ 2; decide
          · cases hr
        · cases hr
    rw [hT0 _ _ _ h2 hT]
    exact hr
  | 13, _, hr =>
    have hr : e_thr a y st h c s f w = some r := hr
    have h2 : r.1 ≠ 2 := by
      unfold e_thr at hr
      cases hn : pg_nt y
      · rw [hn] at hr; cases hr
      · rw [hn, cond_true] at hr
        cases hr; show (1 : Nat) ≠ 2; decide
    rw [hT0 _ _ _ h2 hT]
    exact hr
  | 14, ho, hr =>
    cases hr
    rw [h14 ho hT]
    rfl
  | g + 15, _, hr => exact go_mono ih hr hT
theorem run_up : ∀ {n y pc : Nat} {ls : eL} {st : List eV} {h : eH} {c s f w : Nat} {r : eR}, e_run G K n y pc ls st h c s f w = some r → e_run G K (n + 1) y pc ls st h c s f w = some r := by
  intro n
  induction n with
  | zero => intro y pc ls st h c s f w r hr; cases hr
  | succ n ih =>
    intro y pc ls st h c s f w r hr
    have hr : e_at G K (e_run G K n) (pg_op y pc) y pc ls st h c s f w = some r := hr
    show e_at G K (e_run G K (n + 1)) (pg_op y pc) y pc ls st h c s f w = some r
    exact at_mono (T := fun _ r R => R = r) (fun _ _ _ _ h => h) (fun _ _ _ => rfl) (fun _ h => h) (fun _ _ _ _ _ _ _ _ _ _ _ hq e => by subst e; exact ih hq) hr rfl
theorem run_le {m : Nat} : ∀ {d y pc : Nat} {ls : eL} {st : List eV} {h : eH} {c s f w : Nat} {r : eR}, e_run G K m y pc ls st h c s f w = some r → e_run G K (d + m) y pc ls st h c s f w = some r := by
  intro d
  induction d with
  | zero => intro y pc ls st h c s f w r hr; rw [Nat.zero_add]; exact hr
  | succ d ih => intro y pc ls st h c s f w r hr; rw [Nat.succ_add]; exact run_up (ih hr)
def c_T (G : eG) (K : List eK) (N : Nat) (y : Nat) (r R : eR) : Prop := (r.1 ≠ 2 ∧ R = r) ∨ (r.1 = 2 ∧ e_run G K N y r.2.1 r.2.2.1 r.2.2.2.1 r.2.2.2.2.1 r.2.2.2.2.2.1 r.2.2.2.2.2.2.1 r.2.2.2.2.2.2.2.1 r.2.2.2.2.2.2.2.2 = some R)
theorem cut_run {y0 p0 i0 v0 N : Nat} : ∀ {n y pc : Nat} {ls : eL} {st : List eV} {h : eH} {c s f w : Nat} {r R : eR}, e_cut G K y0 p0 i0 v0 n y pc ls st h c s f w = some r → c_T G K N y r R → e_run G K (n + N) y pc ls st h c s f w = some R := by
  intro n
  induction n with
  | zero => intro y pc ls st h c s f w r R hr; cases hr
  | succ n ih =>
    intro y pc ls st h c s f w r R hr hT
    have hr : (bif Nat.beq pc p0 && (Nat.beq y y0 && e_is (0, v0) (e_look ls i0)) then some (2, pc, ls, st, h, c, s, f, w) else e_at G K (e_cut G K y0 p0 i0 v0 n) (pg_op y pc) y pc ls st h c s f w) = some r := hr
    rw [Nat.succ_add]
    cases hc : (Nat.beq pc p0 && (Nat.beq y y0 && e_is (0, v0) (e_look ls i0)))
    · rw [hc, cond_false] at hr
      show e_at G K (e_run G K (n + N)) (pg_op y pc) y pc ls st h c s f w = some R
      refine at_mono (T := c_T G K N) (fun _ _ _ h2 hq => hq.elim (fun q => q.2) (fun q => absurd q.1 h2)) (fun _ _ h2 => Or.inl ⟨h2, rfl⟩) (fun ho hq => ?_) (fun _ _ _ _ _ _ _ _ _ _ _ h1 h2 => ih h1 h2) hr hT
      rcases hq with ⟨q1, _⟩ | ⟨_, q2⟩
      · exact absurd rfl q1
      · cases N with
        | zero => cases q2
        | succ N =>
          have q2 : e_at G K (e_run G K N) (pg_op _ _) _ _ _ _ _ _ _ _ _ = some _ := q2
          rw [ho] at q2
          cases q2
          rfl
    · rw [hc, cond_true] at hr
      cases hr
      rcases hT with ⟨q1, _⟩ | ⟨_, q2⟩
      · exact absurd rfl q1
      · rw [← Nat.succ_add]
        exact run_le q2
end CUT
/-- a known call, by the end of its run -/
theorem kAll_run {K K' : List eK} {a : Nat} {as : List eV} {h : eH} {q j m : Nat} {vs : List eV} {h1 : eH} {c s f w : Nat} (hr : e_run ([], []) K 1000000 a 0 (e_args 0 as) [] h 0 0 0 0 = some (0, 0, [], vs, h1, c, s, f, w)) (hb : (as.all (q_okv h.length) && (q_okh h.length h && Nat.ble (e_cat as) (pg_ml a))) = true) (hK : kAll K) (hK' : kAll K') : kAll (((a, as, h, q, j, m, vs, h1, c, s, f, w) : eK) :: K') := by
  have h2 := (Bool.and_eq_true _ _).mp hb
  have h3 := (Bool.and_eq_true _ _).mp h2.2
  refine ⟨fun X G hG => List.forall_mem_cons.mpr ⟨?_, hK'.1 X G hG⟩, fun l X G hl hG => List.forall_mem_cons.mpr ⟨fun cA Dg ρ sz => ?_, hK'.2 l X G hl hG⟩⟩
  · exact run_wf pgOk (e_ok0_nil hG) (hK.1 X G hG) 1000000 _ _ _ _ _ _ _ _ _ _ hr (fun _ h => absurd h List.not_mem_nil) (args_ok (q_oks_ok h2.1)) (q_okh_ok h3.1)
  · exact met_of_run pgOk (run_ok pgOk hl (e_ok0_nil hG) (hK.1 X G hG) (hK.2 l X G hl hG) 1000000) hr (q_oks_ok h2.1) (q_okh_ok h3.1) (Nat.le_of_ble_eq_true h3.2) cA Dg ρ sz _ _ (Or.inl ⟨rfl, rfl⟩)
