/-! locals, stacks and worlds of the abstract machine -/
theorem c_cat (X : eX) (ρ : Nat → Nat) (v : eV) : (c_v X ρ v).category = bif e_wide v then 2 else 1 := by
  obtain ⟨t, n⟩ := v
  match t with
  | 0 => rfl
  | 1 => rfl
  | 2 => rfl
  | 3 => rfl
  | 4 => rfl
  | 5 => rfl
  | 6 => rfl
  | 7 => rfl
  | t + 8 => rfl
theorem c_cat2 (X : eX) (ρ : Nat → Nat) (v : eV) : ((c_v X ρ v).category == 2) = e_wide v := by
  rw [c_cat]
  cases e_wide v <;> rfl
def c_ls (X : eX) (ρ : Nat → Nat) (ls : eL) : List (Nat × Value) := ls.map fun q => (q.1, c_v X ρ q.2)
theorem beq_nat (a b : Nat) : (a == b) = Nat.beq a b := Bool.eq_iff_iff.mpr ⟨fun h => by rw [eq_of_beq h]; exact Nat.beq_refl b, fun h => by rw [Nat.eq_of_beq_eq_true h]; exact beq_self_eq_true b⟩
theorem c_drop1 (X : eX) (ρ : Nat → Nat) (i : Nat) : ∀ ls : eL, (c_ls X ρ ls).filter (fun q => !(q.1 == i) && !(q.1 + 1 == i && q.2.category == 2)) = c_ls X ρ (e_drop1 i ls)
  | [] => rfl
  | (j, v) :: t => by
    have ih := c_drop1 X ρ i t
    show List.filter _ ((j, c_v X ρ v) :: c_ls X ρ t) = c_ls X ρ (bif Nat.beq j i || (Nat.beq (j + 1) i && e_wide v) then e_drop1 i t else (j, v) :: e_drop1 i t)
    rw [List.filter_cons]
    dsimp only
    rw [c_cat2, ih, beq_nat, beq_nat]
    cases Nat.beq j i <;> cases Nat.beq (j + 1) i <;> cases e_wide v <;> rfl
theorem c_drop2 (X : eX) (ρ : Nat → Nat) (i : Nat) : ∀ ls : eL, (c_ls X ρ ls).filter (fun q => !(q.1 == i) && (!(q.1 == i + 1) && !(q.1 + 1 == i && q.2.category == 2))) = c_ls X ρ (e_drop2 i ls)
  | [] => rfl
  | (j, v) :: t => by
    have ih := c_drop2 X ρ i t
    show List.filter _ ((j, c_v X ρ v) :: c_ls X ρ t) = c_ls X ρ (bif Nat.beq j i || (Nat.beq j (i + 1) || (Nat.beq (j + 1) i && e_wide v)) then e_drop2 i t else (j, v) :: e_drop2 i t)
    rw [List.filter_cons]
    dsimp only
    rw [c_cat2, ih, beq_nat, beq_nat, beq_nat]
    cases Nat.beq j i <;> cases Nat.beq j (i + 1) <;> cases Nat.beq (j + 1) i <;> cases e_wide v <;> rfl
theorem c_look (X : eX) (ρ : Nat → Nat) {i : Nat} {v : eV} : ∀ {ls : eL}, e_look ls i = some v → (i, v) ∈ ls
  | [], h => by cases h
  | (j, w) :: t, h => by
    have h : (bif Nat.beq j i then some w else e_look t i) = some v := h
    cases hc : Nat.beq j i
    · rw [hc] at h
      exact List.mem_cons_of_mem _ (c_look X ρ h)
    · rw [hc] at h
      cases h
      have := Nat.eq_of_beq_eq_true hc
      subst this
      exact List.mem_cons_self
theorem c_lookv {X : eX} {ρ : Nat → Nat} {i n : Nat} {v : eV} {ls : eL} {la : Array Slot} (h : e_look ls i = some v) (hl : lv_has la n (c_ls X ρ ls)) : la[i]? = some (.val (c_v X ρ v)) :=
  hl.2.2 (i, c_v X ρ v) (List.mem_map_of_mem (f := fun q : Nat × eV => (q.1, c_v X ρ q.2)) (c_look X ρ h))
theorem c_cats (X : eX) (ρ : Nat → Nat) : ∀ st : List eV, ((st.map (c_v X ρ)).map fun v => v.category).sum = e_cat st
  | [] => rfl
  | v :: t => by
    show (c_v X ρ v).category + ((t.map (c_v X ρ)).map fun v => v.category).sum = (bif e_wide v then 2 else 1) + e_cat t
    rw [c_cats X ρ t, c_cat]
theorem c_args (X : eX) (ρ : Nat → Nat) : ∀ (as : List eV) (i : Nat), lv_args i (as.map (c_v X ρ)) = c_ls X ρ (e_args i as)
  | [], _ => rfl
  | v :: t, i => by
    show (i, c_v X ρ v) :: lv_args (if (c_v X ρ v).category = 2 then i + 2 else i + 1) (t.map (c_v X ρ)) = (i, c_v X ρ v) :: c_ls X ρ (e_args (bif e_wide v then i + 2 else i + 1) t)
    rw [c_cat]
    cases e_wide v
    · rw [← c_args X ρ t]; rfl
    · rw [← c_args X ρ t]; rfl
theorem lg_len : ∀ vs : List Value, (lg_sl vs).length = (vs.map fun v => v.category).sum
  | [] => rfl
  | v :: t => by
    have ih := lg_len t
    unfold lg_sl at ih ⊢
    rw [List.flatMap_cons, List.length_append, ih, List.map_cons, List.sum_cons]
    congr 1
    cases v <;> rfl
def c_L (v : eV) : Int64 := match v with
  | (5, n) => lN n
  | _ => 0
def c_D (v : eV) : UInt64 := match v with
  | (6, n) => UInt64.ofNat n
  | _ => 0
def c_R (X : eX) (ρ : Nat → Nat) (v : eV) : Option Nat := match v with
  | (2, k) => some (ρ k)
  | (3, k) => some (X.1 k)
  | _ => none
/-- an array's components -/
def c_a (X : eX) (ρ : Nat → Nat) (t : Nat) (l : List eV) : vp_A := (l.length, match t with
  | 3 => .inr (.inl fun j => c_L (l.getD j (5, 0)))
  | 4 => .inr (.inr (.inr (.inl fun j => c_D (l.getD j (6, 0)))))
  | 6 => .inr (.inr (.inr (.inr fun j => c_R X ρ (l.getD j (1, 0)))))
  | 7 => .inr (.inr (.inr (.inr fun j => c_R X ρ (l.getD j (1, 0)))))
  | _ => .inl fun j => c_I X (l.getD j (0, 0)))
def c_c (X : eX) (cA : Nat → ClassId) (ρ : Nat → Nat) (c : eC) : va_E := match c with
  | (0, ci, fs) => .inr (ci, fs.map (c_v X ρ))
  | (_, t, l) => .inl (cA t, c_a X ρ t l)
def c_w (X : eX) (cA : Nat → ClassId) (ρ : Nat → Nat) : Nat → eH → va_W
  | _, [] => []
  | i, c :: t => (ρ i, c_c X cA ρ c) :: c_w X cA ρ (i + 1) t
theorem cw_get (X : eX) (cA : Nat → ClassId) (ρ : Nat → Nat) (h : eH) (i k : Nat) : (c_w X cA ρ i h)[k]? = (e_get h k).map fun c => (ρ (i + k), c_c X cA ρ c) := by
  rw [e_get_eq]
  induction h generalizing i k with
  | nil => rfl
  | cons c t ih =>
    cases k with
    | zero => rfl
    | succ k =>
      show (c_w X cA ρ (i + 1) t)[k]? = (t[k]?).map fun c => (ρ (i + (k + 1)), c_c X cA ρ c)
      rw [ih (i + 1) k, show i + 1 + k = i + (k + 1) by omega]
theorem cw_set (X : eX) (cA : Nat → ClassId) (ρ : Nat → Nat) (c : eC) : ∀ (h : eH) (i k : Nat), (c_w X cA ρ i h).set k (ρ (i + k), c_c X cA ρ c) = c_w X cA ρ i (h.set k c)
  | [], _, _ => rfl
  | _ :: t, i, 0 => rfl
  | d :: t, i, k + 1 => by
    show (ρ i, c_c X cA ρ d) :: (c_w X cA ρ (i + 1) t).set k (ρ (i + (k + 1)), c_c X cA ρ c) = (ρ i, c_c X cA ρ d) :: c_w X cA ρ (i + 1) (t.set k c)
    rw [← cw_set X cA ρ c t (i + 1) k, show i + 1 + k = i + (k + 1) by omega]
theorem cw_app (X : eX) (cA : Nat → ClassId) (ρ : Nat → Nat) (g : eH) : ∀ (h : eH) (i : Nat), c_w X cA ρ i (h ++ g) = c_w X cA ρ i h ++ c_w X cA ρ (i + h.length) g
  | [], i => rfl
  | c :: t, i => by
    show (ρ i, c_c X cA ρ c) :: c_w X cA ρ (i + 1) (t ++ g) = (ρ i, c_c X cA ρ c) :: (c_w X cA ρ (i + 1) t ++ c_w X cA ρ (i + (t.length + 1)) g)
    rw [cw_app X cA ρ g t (i + 1), show i + 1 + t.length = i + (t.length + 1) by omega]
/-- a value speaks of the first n places alone -/
def e_okV (n : Nat) (v : eV) : Prop := v.1 = 2 → v.2 < n
def e_okS (n : Nat) (st : List eV) : Prop := ∀ v ∈ st, e_okV n v
def e_okLs (n : Nat) (ls : eL) : Prop := ∀ q ∈ ls, e_okV n q.2
def e_okH (n : Nat) (h : eH) : Prop := ∀ c ∈ h, e_okS n c.2.2
theorem c_v_congr {X : eX} {ρ ρ' : Nat → Nat} {n : Nat} {v : eV} (h : e_okV n v) (hρ : ∀ k, k < n → ρ' k = ρ k) : c_v X ρ' v = c_v X ρ v := by
  obtain ⟨t, k⟩ := v
  match t, h with
  | 0, _ => rfl
  | 1, _ => rfl
  | 2, h => exact congrArg Value.ref (hρ k (h rfl))
  | 3, _ => rfl
  | 4, _ => rfl
  | 5, _ => rfl
  | 6, _ => rfl
  | 7, _ => rfl
  | t + 8, _ => rfl
theorem c_R_congr {X : eX} {ρ ρ' : Nat → Nat} {n : Nat} {v : eV} (h : e_okV n v) (hρ : ∀ k, k < n → ρ' k = ρ k) : c_R X ρ' v = c_R X ρ v := by
  obtain ⟨t, k⟩ := v
  match t, h with
  | 0, _ => rfl
  | 1, _ => rfl
  | 2, h => exact congrArg some (hρ k (h rfl))
  | 3, _ => rfl
  | t + 4, _ => rfl
theorem c_st_congr {X : eX} {ρ ρ' : Nat → Nat} {n : Nat} {st : List eV} (h : e_okS n st) (hρ : ∀ k, k < n → ρ' k = ρ k) : st.map (c_v X ρ') = st.map (c_v X ρ) :=
  List.map_congr_left fun v hv => c_v_congr (h v hv) hρ
theorem c_ls_congr {X : eX} {ρ ρ' : Nat → Nat} {n : Nat} {ls : eL} (h : e_okLs n ls) (hρ : ∀ k, k < n → ρ' k = ρ k) : c_ls X ρ' ls = c_ls X ρ ls :=
  List.map_congr_left fun q hq => by rw [c_v_congr (h q hq) hρ]
theorem e_okgetD {n j : Nat} {l : List eV} {d : eV} (h : e_okS n l) (hd : e_okV n d) : e_okV n (l.getD j d) := by
  rw [List.getD_eq_getElem?_getD]
  cases hj : l[j]? with
  | none => exact hd
  | some v => exact h v (List.mem_of_getElem? hj)
theorem c_c_congr {X : eX} {cA : Nat → ClassId} {ρ ρ' : Nat → Nat} {n : Nat} {c : eC} (h : e_okS n c.2.2) (hρ : ∀ k, k < n → ρ' k = ρ k) : c_c X cA ρ' c = c_c X cA ρ c := by
  obtain ⟨k, t, l⟩ := c
  have ha : c_a X ρ' t l = c_a X ρ t l := by
    unfold c_a
    refine congrArg (Prod.mk _) ?_
    have hf : (fun j => c_R X ρ' (l.getD j (1, 0))) = fun j => c_R X ρ (l.getD j (1, 0)) := funext fun j => c_R_congr (e_okgetD h (fun q => by cases q)) hρ
    split <;> first | rfl | rw [hf]
  match k with
  | 0 => exact congrArg Sum.inr (congrArg (Prod.mk t) (c_st_congr h hρ))
  | k + 1 => exact congrArg Sum.inl (congrArg (Prod.mk (cA t)) ha)
theorem cw_congr {X : eX} {cA : Nat → ClassId} {ρ ρ' : Nat → Nat} {n : Nat} (hρ : ∀ k, k < n → ρ' k = ρ k) : ∀ (h : eH) (i : Nat), e_okH n h → i + h.length ≤ n → c_w X cA ρ' i h = c_w X cA ρ i h
  | [], _, _, _ => rfl
  | c :: t, i, hh, hi => by
    have hi2 : i + (t.length + 1) ≤ n := hi
    show (ρ' i, c_c X cA ρ' c) :: c_w X cA ρ' (i + 1) t = (ρ i, c_c X cA ρ c) :: c_w X cA ρ (i + 1) t
    rw [hρ i (by omega), c_c_congr (hh c List.mem_cons_self) hρ, cw_congr hρ t (i + 1) (fun d hd => hh d (List.mem_cons_of_mem _ hd)) (by omega)]
/-- a new cell's address -/
def e_ext (ρ : Nat → Nat) (n q : Nat) : Nat → Nat := fun k => if k = n then q else ρ k
theorem e_ext_lt {ρ : Nat → Nat} {n q k : Nat} (h : k < n) : e_ext ρ n q k = ρ k := if_neg (by omega)
theorem e_ext_at {ρ : Nat → Nat} {n q : Nat} : e_ext ρ n q n = q := if_pos rfl
theorem cw_new {X : eX} {cA : Nat → ClassId} {ρ : Nat → Nat} {h : eH} {c : eC} {q : Nat} (hh : e_okH h.length h) : c_w X cA (e_ext ρ h.length q) 0 (h ++ [c]) = c_w X cA ρ 0 h ++ [(q, c_c X cA (e_ext ρ h.length q) c)] := by
  rw [cw_app, cw_congr (n := h.length) (fun k hk => e_ext_lt hk) h 0 hh (by omega)]
  show _ ++ [(e_ext ρ h.length q (0 + h.length), _)] = _
  rw [Nat.zero_add, e_ext_at]
theorem e_okV.mono {n n' : Nat} {v : eV} (h : e_okV n v) (hn : n ≤ n') : e_okV n' v := fun q => Nat.lt_of_lt_of_le (h q) hn
theorem e_okS.mono {n n' : Nat} {st : List eV} (h : e_okS n st) (hn : n ≤ n') : e_okS n' st := fun v hv => (h v hv).mono hn
theorem e_okLs.mono {n n' : Nat} {ls : eL} (h : e_okLs n ls) (hn : n ≤ n') : e_okLs n' ls := fun q hq => (h q hq).mono hn
theorem e_okH.mono {n n' : Nat} {h : eH} (hh : e_okH n h) (hn : n ≤ n') : e_okH n' h := fun c hc => (hh c hc).mono hn
