/-! known calls, which may take known calls -/
noncomputable section
def q_okv (n : Nat) (v : eV) : Bool := bif Nat.beq v.1 2 then Nat.blt v.2 n else true
theorem q_okv_ok {n : Nat} {v : eV} (h : q_okv n v = true) : v.1 = 2 → v.2 < n := fun h2 => by
  unfold q_okv at h
  rw [h2] at h
  exact Nat.le_of_ble_eq_true h
def q_okh (n : Nat) (h : eH) : Bool := h.all fun c => c.2.2.all (q_okv n)
theorem q_okh_ok {n : Nat} {h : eH} (hb : q_okh n h = true) : e_okH n h := fun c hc v hv => q_okv_ok (List.all_eq_true.mp (List.all_eq_true.mp hb c hc) v hv)
theorem q_oks_ok {n : Nat} {s : List eV} (hb : s.all (q_okv n) = true) : e_okS n s := fun v hv => q_okv_ok (List.all_eq_true.mp hb v hv)
def k_ok (K : List eK) (k : eK) : Bool := match k with
  | (a, as, h, _, _, _, vs, h1, c, s, f, w) => q_r (e_run ([], []) K 1000000 a 0 (e_args 0 as) [] h 0 0 0 0) (0, 0, [], vs, h1, c, s, f, w) && (as.all (q_okv h.length) && (q_okh h.length h && Nat.ble (e_cat as) (pg_ml a)))
def kAll (K : List eK) : Prop := (∀ (X : eX) (G : eG), e_ok0 X G → kWf K) ∧ (∀ (l : Launch) (X : eX) (G : eG), l.stackTraces = false → e_ok0 X G → ∀ k ∈ K, kOk l X k)
theorem kAll_nil : kAll [] := ⟨fun _ _ _ k hk => absurd hk List.not_mem_nil, fun _ _ _ _ _ k hk => absurd hk List.not_mem_nil⟩
theorem kAll_app {K K' : List eK} (h : kAll K) (h' : kAll K') : kAll (K ++ K') := ⟨fun X G hG k hk => (List.mem_append.mp hk).elim (h.1 X G hG k) (h'.1 X G hG k), fun l X G hl hG k hk => (List.mem_append.mp hk).elim (h.2 l X G hl hG k) (h'.2 l X G hl hG k)⟩
theorem e_ok0_nil {X : eX} {G : eG} (hG : e_ok0 X G) : e_ok0 X (([], []) : eG) := ⟨fun k lo hi hg => (by rw [e_get_eq] at hg; cases hg), fun o k c r hm => absurd hm List.not_mem_nil, hG.2.2⟩
theorem k_ok_wf {K : List eK} {k : eK} (h : k_ok K k = true) (hK : kAll K) {X : eX} {G : eG} (hG : e_ok0 X G) : eWr k.2.2.1.length ((0, 0, [], k.2.2.2.2.2.2.1, k.2.2.2.2.2.2.2.1, k.2.2.2.2.2.2.2.2) : eR) 0 0 0 0 := by
  obtain ⟨a, as, hh, q, j, m, vs, h1, c, s, f, w⟩ := k
  have h0 := (Bool.and_eq_true _ _).mp h
  have h2 := (Bool.and_eq_true _ _).mp h0.2
  have h3 := (Bool.and_eq_true _ _).mp h2.2
  exact run_wf pgOk (e_ok0_nil hG) (hK.1 X G hG) 1000000 _ _ _ _ _ _ _ _ _ _ (q_r_eq h0.1) (fun _ h => absurd h List.not_mem_nil) (args_ok (q_oks_ok h2.1)) (q_okh_ok h3.1)
theorem k_ok_ok {K : List eK} {k : eK} (h : k_ok K k = true) (hK : kAll K) {l : Launch} {X : eX} {G : eG} (hlt : l.stackTraces = false) (hG : e_ok0 X G) : kOk l X k := by
  obtain ⟨a, as, hh, q, j, m, vs, h1, c, s, f, w⟩ := k
  have h0 := (Bool.and_eq_true _ _).mp h
  have h2 := (Bool.and_eq_true _ _).mp h0.2
  have h3 := (Bool.and_eq_true _ _).mp h2.2
  intro cA Dg ρ sz
  exact met_of_run pgOk (run_ok pgOk hlt (e_ok0_nil hG) (hK.1 X G hG) (hK.2 l X G hlt hG) 1000000) (q_r_eq h0.1) (q_oks_ok h2.1) (q_okh_ok h3.1) (Nat.le_of_ble_eq_true h3.2) cA Dg ρ sz _ _ (Or.inl ⟨rfl, rfl⟩)
theorem kAll_cons {K K' : List eK} {k : eK} (h : k_ok K k = true) (hK : kAll K) (hK' : kAll K') : kAll (k :: K') := ⟨fun X G hG => List.forall_mem_cons.mpr ⟨k_ok_wf h hK hG, hK'.1 X G hG⟩, fun _ X G hl hG => List.forall_mem_cons.mpr ⟨k_ok_ok h hK hl hG, hK'.2 _ X G hl hG⟩⟩
end
