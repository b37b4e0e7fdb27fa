/-! copies of rows: the rows of the instructions -/
theorem cpy_eq {X : eX} {ρ : Nat → Nat} {el fl : List eV} {n : Nat} (h1 : n ≤ el.length) (h2 : n ≤ fl.length) : c_a X ρ 7 (el.take n ++ fl.drop n) = (fl.length, .inr (.inr (.inr (.inr (va_cpy (fun j => c_R X ρ (el.getD j (1, 0))) (fun j => c_R X ρ (fl.getD j (1, 0))) 0 0 n))))) := by
  have hlen : (el.take n ++ fl.drop n).length = fl.length := by
    rw [List.length_append, List.length_take, List.length_drop]; omega
  have e : (fun j => c_R X ρ ((el.take n ++ fl.drop n).getD j (1, 0))) = va_cpy (fun j => c_R X ρ (el.getD j (1, 0))) (fun j => c_R X ρ (fl.getD j (1, 0))) 0 0 n := funext fun j => by
    unfold va_cpy
    simp only [List.getD_eq_getElem?_getD]
    by_cases q : j < n
    · rw [if_pos ⟨Nat.zero_le _, by omega⟩, List.getElem?_append_left (by rw [List.length_take]; omega), List.getElem?_take, if_pos q, Nat.zero_add, Nat.sub_zero]
    · rw [if_neg (fun h => q (by omega)), List.getElem?_append_right (by rw [List.length_take]; omega), List.length_take, List.getElem?_drop, show n + (j - min n el.length) = j by omega]
  rw [c_a_7, hlen, e]
theorem okw_ldcM {D : eD} {pc idx : Nat} (d : decode D.2.1 pc = .ok (.ldc idx, 2)) (hl : Cond.classLink D.1.cls idx "[Ljava/lang/Object;" ∈ wG) : okPushX D pc (pc + 2) 8 :=
  fun _ _ _ _ _ _ _ _ _ _ _ _ _ _ _ _ _ _ _ ⟨hx, hb, _, _, ht, ho, _⟩ hE _ kk => va_ldcM hx hb ho (ht _ hl) hE.2.2.2.1 d kk
theorem okw_getC {D : eD} {pc idx : Nat} (d : decode D.2.1 pc = .ok (.invokevirtual idx, 3)) (hl : Cond.methodLink D.1.cls idx ⟨"java/lang/Object", "getClass", "()Ljava/lang/Class;"⟩ ∈ wG) (h1 : Cond.selects "[Ljava/lang/Object;" ⟨"java/lang/Object", "getClass", "()Ljava/lang/Class;"⟩ ⟨"java/lang/Object", "getClass", "()Ljava/lang/Class;"⟩ ∈ wG) (h2 : Cond.instanceMethod ⟨"java/lang/Object", "getClass", "()Ljava/lang/Class;"⟩ ∈ wG) (h3 : Cond.native ⟨"java/lang/Object", "getClass", "()Ljava/lang/Class;"⟩ ∈ wG) : okGetC D pc (pc + 3) :=
  fun _ _ _ _ s _ _ _ _ _ H _ _ _ _ X ρ cA Dg A ws a q0 el ls st ⟨hx, hb, hml, _, ht, ho, _⟩ hK hE hP ha hsz hf hw kk => by
    have hcell : ∃ cell : Cell, H[a]? = some cell ∧ cell.vm.isStatics = false ∧ s.vm.findClass "[Ljava/lang/Object;" = some cell.cls := ⟨vp_cell (cA 7) (c_a X ρ 7 el), hP q0 _ ha, rfl, va_nmO (hK.2 7 _ (TYs_at (by decide))).2 (by decide)⟩
    exact va_getC hx hb (hml.trans hsz.symm) ho (ht _ hl) (va_Dc.use hE.2.2.2.2.1) (ht _ h1) (ht _ h2) (ht _ h3) hE.2.2.2.1 hcell hf hw d kk
theorem okw_copyq {D : eD} {pc idx : Nat} (d : decode D.2.1 pc = .ok (.invokestatic idx, 3)) (hl : Cond.methodLink D.1.cls idx arraycopyName ∈ wG) (h1 : Cond.native arraycopyName ∈ wG) (h2 : Cond.static arraycopyName ∈ wG) (h3 : Cond.initialized "java/lang/System" ∈ wG) : okCopyq D pc (pc + 3) :=
  fun _ _ _ R s _ _ _ _ _ H _ _ _ _ X ρ cA Dg A ws a0 a q0 q1 n el fl ls st ⟨hx, hb, hml, _, ht, ho, _, _, hN, _⟩ hK hP hD hS ha0 ha hci hn1 hn2 hn hsz hf hw kk => by
    obtain ⟨ci, hci⟩ := hci
    have key : ∃ C, va_Nw (.castable C "java/lang/Object") s ∧ ∀ i : Nat, i < n → ∀ y : Nat, c_R X ρ (el.getD (0 + i) (1, 0)) = some y → ∃ cellV : Cell, H[y]? = some cellV ∧ cellV.vm.isStatics = false ∧ s.vm.findClass C = some cellV.cls := by
      have at_ : ∀ i : Nat, i < n → ∀ y : Nat, c_R X ρ (el.getD (0 + i) (1, 0)) = some y → ∃ (q2 : Nat) (vs : List Value), ws[q2]? = some (y, .inr (ci, vs)) := fun i hi y hy => by
        rw [Nat.zero_add] at hy
        have hlt : i < el.length := by omega
        rw [List.getD_eq_getElem?_getD, List.getElem?_eq_getElem hlt] at hy
        exact hci i _ y (List.getElem?_eq_getElem hlt) hy
      cases hr : vwCl[ci]? with
      | some r =>
        refine ⟨r.1, hN _ (castObj ci r hr), fun i hi y hy => ?_⟩
        obtain ⟨q2, vs, h9⟩ := at_ i hi y hy
        exact va_recv hK hP hr h9
      | none =>
        refine ⟨_, hN _ (castObj 0 _ rfl), fun i hi y hy => ?_⟩
        obtain ⟨q2, vs, h9⟩ := at_ i hi y hy
        obtain ⟨r, hr9, -⟩ := hP q2 _ h9
        rw [hr] at hr9
        cases hr9
    obtain ⟨C, hca, hel⟩ := key
    have z0 : (nI 0).toNatClampNeg = 0 := nI_clamp (by omega)
    have zn : (nI n).toNatClampNeg = n := nI_clamp (by omega)
    have nn : ∀ k, k < 65536 → ¬ nI k < 0 := fun k hk => nI_pos (by omega)
    refine va_copyq hx hb (hml.trans hsz.symm) ho (ht _ hl) (ht _ h1) (ht _ h2) (ht _ h3) hK hP hD hS q0 q1 7 7 ha0 ha (TYs_at (by decide)) (TYs_at (by decide)) (nn 0 (by decide)) (nn 0 (by decide)) (nn n hn) (by rw [z0, zn]; omega) (by rw [z0, zn]; omega) (by rw [z0, zn]; exact hel) (fun comp c0 e1 e2 => vb_asgC hca comp c0 e1 e2) hf (Nat.le_trans (Nat.add_le_add_left (by decide) _) hw) d (fun H1 locs1 hP1 hD1 hS1 => ?_)
    rw [z0, zn, ← cpy_eq hn1 hn2] at hP1 hD1
    exact kk H1 locs1 hP1 hD1 hS1
