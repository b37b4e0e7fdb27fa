/-! the given things, looked at -/
def xInts (l : List Nat) : List eV := l.map fun n => (0, n)
theorem xa_cases {x t : Nat} {el : List eV} (h : pg_xa x = some (t, el)) : (x = 0 ∧ t = 7 ∧ el = []) ∨ (x = 2 ∧ t = 0 ∧ el = xInts [10, 10, 99, 99, 99, 99, 99]) ∨ (x = 3 ∧ t = 2 ∧ el = xInts [115, 112, 99, 108, 109, 114, 119]) ∨ (x = 4 ∧ t = 0 ∧ el = xInts [10, 10, 99, 99, 99, 99, 99]) ∨ (x = 6 ∧ t = 5 ∧ el = xInts [115, 112, 99, 108, 109, 114, 119]) ∨ (x = 7 ∧ t = 7 ∧ el = pg_ints) := by
  match x, h with
  | 0, h => cases h; exact Or.inl ⟨rfl, rfl, rfl⟩
  | 1, h => cases h
  | 2, h => cases h; exact Or.inr (Or.inl ⟨rfl, rfl, rfl⟩)
  | 3, h => cases h; exact Or.inr (Or.inr (Or.inl ⟨rfl, rfl, rfl⟩))
  | 4, h => cases h; exact Or.inr (Or.inr (Or.inr (Or.inl ⟨rfl, rfl, rfl⟩)))
  | 5, h => cases h
  | 6, h => cases h; exact Or.inr (Or.inr (Or.inr (Or.inr (Or.inl ⟨rfl, rfl, rfl⟩))))
  | 7, h => cases h; exact Or.inr (Or.inr (Or.inr (Or.inr (Or.inr ⟨rfl, rfl, rfl⟩))))
  | x + 8, h => cases h
theorem xf_cases {x c : Nat} {fs : List eV} (h : pg_xf x = some (c, fs)) : (x = 5 ∧ c = 0 ∧ fs = [(3, 6), (0, 0)]) ∨ ∃ k, k < 256 ∧ x = 100 + k ∧ c = 1 ∧ fs = [(0, (k + 4294967168) % 4294967296)] := by
  unfold pg_xf at h
  cases h5 : Nat.beq x 5
  · rw [h5] at h
    cases h6 : (Nat.ble 100 x && Nat.blt x 356)
    · rw [h6] at h; cases h
    · rw [h6] at h
      simp only [Bool.and_eq_true] at h6
      have q1 : 100 ≤ x := Nat.le_of_ble_eq_true h6.1
      have q2 : x < 356 := Nat.le_of_ble_eq_true h6.2
      obtain ⟨rfl, rfl⟩ := Prod.mk.inj (Option.some.inj h)
      exact Or.inr ⟨x - 100, by omega, by omega, rfl, rfl⟩
  · rw [h5] at h
    have := Nat.eq_of_beq_eq_true h5
    obtain ⟨rfl, rfl⟩ := Prod.mk.inj (Option.some.inj h)
    exact Or.inl ⟨this, rfl, rfl⟩
theorem xInts_at {l : List Nat} {j : Nat} {u : eV} (h : (xInts l)[j]? = some u) : j < l.length ∧ u = (0, l.getD j 0) := by
  unfold xInts at h
  rw [List.getElem?_map] at h
  cases hj : l[j]? with
  | none => rw [hj] at h; cases h
  | some n =>
    rw [hj] at h
    cases h
    exact ⟨lt_of_getElem? hj, by rw [getD_of hj]⟩
theorem ints_at {j : Nat} {u : eV} (h : pg_ints[j]? = some u) : j < 256 ∧ u = (3, 100 + j) := by
  have e : pg_ints = (List.range 256).map (fun k => ((3 : Nat), 100 + k)) := by decide +kernel
  rw [e, List.getElem?_map] at h
  cases hj : (List.range 256)[j]? with
  | none => rw [hj] at h; cases h
  | some n =>
    rw [hj] at h
    cases h
    obtain ⟨h1, h2⟩ := List.getElem?_eq_some_iff.mp hj
    rw [List.getElem_range] at h2
    subst h2
    exact ⟨by simpa using h1, rfl⟩
theorem vb_c_at : ∀ k, k < 256 → nI ((k + 4294967168) % 4294967296) = vb_c k := by decide +kernel
section OKX
variable {D : eD} {pc ci k : Nat}
theorem okx_none (h : 2 ≤ ci) (nx : Nat) : okGetx D pc nx ci k :=
  fun _ _ _ _ _ _ _ _ _ _ _ _ _ _ _ _ _ _ _ _ _ _ _ _ _ _ hx _ _ => by
    rcases xf_cases hx with ⟨_, h2, _⟩ | ⟨_, _, _, h2, _⟩ <;> omega
theorem okx_value {idx : Nat} (d : decode D.2.1 pc = .ok (.getfield idx, 3)) (hl : Cond.fieldLink D.1.cls idx "java/lang/String" "value" "[B" ∈ wG) : okGetx D pc (pc + 3) 0 0 :=
  fun _ _ _ _ _ _ _ _ _ _ _ _ _ _ _ X A ρ x fs u ls st ⟨hx, hb, _, _, ht, ho, _⟩ hE hS hf hu kk => by
    rcases xf_cases hf with ⟨rfl, _, rfl⟩ | ⟨_, _, _, h2, _⟩
    · cases hu
      exact vk_getf hx hb hE.2.2.2.2.2.2.2.2.2.2.2.2.2.2.2.1 hS ho (ht _ hl) (fun _ h => h) d kk
    · omega
theorem okx_coder {idx : Nat} (d : decode D.2.1 pc = .ok (.getfield idx, 3)) (hl : Cond.fieldLink D.1.cls idx "java/lang/String" "coder" "B" ∈ wG) : okGetx D pc (pc + 3) 0 1 :=
  fun _ _ _ _ _ _ _ _ _ _ _ _ _ _ _ X A ρ x fs u ls st ⟨hx, hb, _, _, ht, ho, _⟩ hE hS hf hu kk => by
    rcases xf_cases hf with ⟨rfl, _, rfl⟩ | ⟨_, _, _, h2, _⟩
    · cases hu
      exact vk_getf hx hb hE.2.2.2.2.2.2.2.2.2.2.2.2.2.2.2.2.1 hS ho (ht _ hl) (fun _ h => h) d kk
    · omega
theorem okx_int {idx : Nat} (d : decode D.2.1 pc = .ok (.getfield idx, 3)) (hl : Cond.fieldLink D.1.cls idx "java/lang/Integer" "value" "I" ∈ wG) : okGetx D pc (pc + 3) 1 0 :=
  fun _ _ _ _ _ _ _ _ _ _ _ _ _ _ _ X A ρ x fs u ls st ⟨hx, hb, _, _, ht, ho, _⟩ hE hS hf hu kk => by
    rcases xf_cases hf with ⟨_, h2, _⟩ | ⟨k, hk, rfl, _, rfl⟩
    · omega
    · cases hu
      have kk : W _ _ _ _ _ _ _ _ _ _ _ _ _ _ _ (F0 _ (pc + 3) ls (.int (nI ((k + 4294967168) % 4294967296)) :: st)) := kk
      rw [vb_c_at k hk] at kk
      exact vk_getf hx hb (hE.2.2.2.2.2.2.2.2.2.2.2.2.2.1.2 k hk) hS ho (ht _ hl) (fun _ h => h) d kk
theorem wTi_at {x : Nat} {ty : FieldType} {l : List Nat} {X : eX} {A : Nat → Prop} {s : State} (hE : eE X A s) (hm : (x, ty, l) ∈ wTi) : va_T ty (X.1 x) l.length (fun j => .int (nI (l.getD j 0))) A s s.heap := hE.2.2.2.2.2.2.2.2.2.2.1 _ hm
theorem oky_none {t : Nat} (h : t = 1 ∨ t = 3 ∨ t = 4 ∨ t = 6) (nx : Nat) : okAlx D pc nx t :=
  fun _ _ _ _ _ _ _ _ _ _ _ _ _ _ _ _ _ _ _ _ _ _ _ _ _ _ _ hx _ _ => by
    rcases xa_cases hx with ⟨_, h2, _⟩ | ⟨_, h2, _⟩ | ⟨_, h2, _⟩ | ⟨_, h2, _⟩ | ⟨_, h2, _⟩ | ⟨_, h2, _⟩ <;> omega
theorem oky_i (d : decode D.2.1 pc = .ok (.iaload, 1)) : okAlx D pc (pc + 1) 0 :=
  fun _ _ _ _ _ _ _ _ _ _ _ _ _ _ _ X ρ A x j el u ls st ⟨hx, hb, _⟩ hE hS hf hj hu kk => by
    rcases xa_cases hf with ⟨_, h2, _⟩ | ⟨rfl, _, rfl⟩ | ⟨_, h2, _⟩ | ⟨rfl, _, rfl⟩ | ⟨_, h2, _⟩ | ⟨_, h2, _⟩
    · omega
    · obtain ⟨h1, rfl⟩ := xInts_at hu
      exact va_ti hx hb (wTi_at (x := 2) (ty := .int) hE (by decide)) hS (vp_in_of_lt h1 hj) (by rw [cl16 hj]; rfl) d kk
    · omega
    · obtain ⟨h1, rfl⟩ := xInts_at hu
      exact va_ti hx hb (wTi_at (x := 4) (ty := .int) hE (by decide)) hS (vp_in_of_lt h1 hj) (by rw [cl16 hj]; rfl) d kk
    · omega
    · omega
theorem oky_c (d : decode D.2.1 pc = .ok (.caload, 1)) : okAlx D pc (pc + 1) 2 :=
  fun _ _ _ _ _ _ _ _ _ _ _ _ _ _ _ X ρ A x j el u ls st ⟨hx, hb, _⟩ hE hS hf hj hu kk => by
    rcases xa_cases hf with ⟨_, h2, _⟩ | ⟨_, h2, _⟩ | ⟨rfl, _, rfl⟩ | ⟨_, h2, _⟩ | ⟨_, h2, _⟩ | ⟨_, h2, _⟩
    · omega
    · omega
    · obtain ⟨h1, rfl⟩ := xInts_at hu
      exact va_tc hx hb (wTi_at (x := 3) (ty := .char) hE (by decide)) hS (vp_in_of_lt h1 hj) (by rw [cl16 hj]; rfl) d kk
    · omega
    · omega
    · omega
theorem oky_b (d : decode D.2.1 pc = .ok (.baload, 1)) : okAlx D pc (pc + 1) 5 :=
  fun _ _ _ _ _ _ _ _ _ _ _ _ _ _ _ X ρ A x j el u ls st ⟨hx, hb, _⟩ hE hS hf hj hu kk => by
    rcases xa_cases hf with ⟨_, h2, _⟩ | ⟨_, h2, _⟩ | ⟨_, h2, _⟩ | ⟨_, h2, _⟩ | ⟨rfl, _, rfl⟩ | ⟨_, h2, _⟩
    · omega
    · omega
    · omega
    · omega
    · obtain ⟨h1, rfl⟩ := xInts_at hu
      exact va_tb hx hb (wTi_at (x := 6) (ty := .byte) hE (by decide)) hS (vp_in_of_lt h1 hj) (by rw [cl16 hj]; rfl) d kk
    · omega
theorem oky_q (d : decode D.2.1 pc = .ok (.aaload, 1)) : okAlx D pc (pc + 1) 7 :=
  fun _ _ _ _ _ _ _ _ _ _ _ _ _ _ _ X ρ A x j el u ls st ⟨hx, hb, _⟩ hE hS hf hj hu kk => by
    rcases xa_cases hf with ⟨_, _, rfl⟩ | ⟨_, h2, _⟩ | ⟨_, h2, _⟩ | ⟨_, h2, _⟩ | ⟨_, h2, _⟩ | ⟨rfl, _, rfl⟩
    · cases hu
    · omega
    · omega
    · omega
    · omega
    · obtain ⟨h1, rfl⟩ := ints_at hu
      exact vb_tq hx hb hE.2.2.2.2.2.2.2.2.2.2.2.2.1 hS (vp_in_of_lt h1 hj) (by rw [cl16 hj]; rfl) d kk
theorem oky_len (d : decode D.2.1 pc = .ok (.arraylength, 1)) : okLenx D pc (pc + 1) :=
  fun _ _ _ _ _ _ _ _ _ _ _ _ _ _ _ X A x t el ls st ⟨hx, hb, _⟩ hE hS hf kk => by
    rcases xa_cases hf with ⟨rfl, _, rfl⟩ | ⟨rfl, _, rfl⟩ | ⟨rfl, _, rfl⟩ | ⟨rfl, _, rfl⟩ | ⟨rfl, _, rfl⟩ | ⟨rfl, _, rfl⟩
    · exact va_tlen hx hb hE.2.2.2.2.2.2.2.2.2.2.2.1 hS rfl d kk
    · exact va_tlen hx hb (wTi_at (x := 2) (l := [10, 10, 99, 99, 99, 99, 99]) (ty := .int) hE (by decide)) hS rfl d kk
    · exact va_tlen hx hb (wTi_at (x := 3) (l := [115, 112, 99, 108, 109, 114, 119]) (ty := .char) hE (by decide)) hS rfl d kk
    · exact va_tlen hx hb (wTi_at (x := 4) (l := [10, 10, 99, 99, 99, 99, 99]) (ty := .int) hE (by decide)) hS rfl d kk
    · exact va_tlen hx hb (wTi_at (x := 6) (l := [115, 112, 99, 108, 109, 114, 119]) (ty := .byte) hE (by decide)) hS rfl d kk
    · have e : pg_ints.length = 256 := by decide +kernel
      rw [e] at kk
      exact va_tlen hx hb hE.2.2.2.2.2.2.2.2.2.2.2.2.1 hS rfl d kk
end OKX
