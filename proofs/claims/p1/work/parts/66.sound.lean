/-! THE ABSTRACT MACHINE IS SOUND -/
theorem rk_ok (X : eX) (ρ : Nat → Nat) {i : Nat} {v : eV} (h : e_rk i v = true) : retV i (c_v X ρ v) := by
  obtain ⟨t, k⟩ := v
  match i, h with
  | 0, h => cases h
  | 1, h => exact ⟨_, c_isI X ρ h⟩
  | 2, h => exact ⟨_, c_isLong h⟩
  | 3, h => exact ⟨_, c_isDouble h⟩
  | 4, h =>
    have h : e_isR (t, k) = true := h
    simp only [e_isR, Bool.or_eq_true] at h
    rcases h with h | h <;> (have := beqE h; subst this; exact ⟨_, rfl⟩)
  | 5, h =>
    have := beqE h
    subst this
    exact ⟨_, rfl⟩
  | 6, h =>
    have h : (Nat.beq t 0 && Nat.blt k 2) = true := h
    simp only [Bool.and_eq_true] at h
    have := beqE h.1
    subst this
    have hk : k < 2 := Nat.le_of_ble_eq_true h.2
    match k, hk with
    | 0, _ => exact Or.inl rfl
    | 1, _ => exact Or.inr rfl
  | 7, h =>
    have h : (Nat.beq t 0 && Nat.blt k 65536) = true := h
    simp only [Bool.and_eq_true] at h
    have := beqE h.1
    subst this
    exact ⟨k, Nat.le_of_ble_eq_true h.2, rfl⟩
  | 8, h =>
    have h : (Nat.beq t 0 && Nat.blt k 128) = true := h
    simp only [Bool.and_eq_true] at h
    have := beqE h.1
    subst this
    exact ⟨k, Nat.le_of_ble_eq_true h.2, rfl⟩
  | i + 9, h => cases h
theorem recvV_ok (PG : PGok) {X : eX} {cA : Nat → ClassId} {Dg : va_G} {ρ : Nat → Nat} {A : Nat → Prop} {s : State} {H : Heap} {locs : List Loc} {h : eH} {a : Nat} (hK : va_K Dg vwCl (TYs cA) s) (hE : eE X A s) (hS : va_S A s.heap H locs) (hP : va_P Dg vwCl (c_w X cA ρ 0 h) H) : ∀ {as : List eV}, e_recvV a h as = true → ∃ b As', as.map (c_v X ρ) = .ref b :: As' ∧ ∃ cell : Cell, H[b]? = some cell ∧ cell.vm.isStatics = false ∧ s.vm.findClass (m_d a).1.cls = some cell.cls
  | [], hr => by cases hr
  | v :: t, hr => by
    have h1 : e_isC h v (pg_cl a) = true := hr
    unfold e_isC at h1
    split at h1
    · rename_i ci hc
      have := beqE h1
      subst this
      obtain ⟨y, r9, e2, e3, e4⟩ := e_cls_ok hK hE hS hP hc
      rw [PG.2.2.2.2.1 a r9 e3] at e4
      exact ⟨y, t.map (c_v X ρ), by rw [List.map_cons, e2], e4⟩
    · cases h1
theorem recvN_ok {X : eX} {ρ : Nat → Nat} : ∀ {as : List eV}, e_recvN as = true → ∃ b As', as.map (c_v X ρ) = .ref b :: As'
  | (2, _) :: _, _ => ⟨_, _, rfl⟩
  | [], hr => by cases hr
  | (0, _) :: _, hr => by cases hr
  | (1, _) :: _, hr => by cases hr
  | (i + 3, _) :: _, hr => by cases hr
theorem recv_ok (PG : PGok) {X : eX} {cA : Nat → ClassId} {Dg : va_G} {ρ : Nat → Nat} {A : Nat → Prop} {s : State} {H : Heap} {locs : List Loc} {h : eH} {a : Nat} {as : List eV} (hK : va_K Dg vwCl (TYs cA) s) (hE : eE X A s) (hS : va_S A s.heap H locs) (hP : va_P Dg vwCl (c_w X cA ρ 0 h) H) : ∀ {i : Nat}, e_recv i a h as = true → eRecv i (m_d a) s H (as.map (c_v X ρ))
  | 0, _ => trivial
  | 1, hr => recvN_ok hr
  | 2, hr => recvV_ok PG hK hE hS hP hr
  | 3, hr => recvV_ok PG hK hE hS hP hr
  | 4, _ => trivial
  | _ + 5, hr => recvV_ok PG hK hE hS hP hr
theorem call_stack (X : eX) (ρ : Nat → Nat) (st : List eV) (b : Nat) : (((st.take b).reverse).map (c_v X ρ)).reverse ++ (st.drop b).map (c_v X ρ) = st.map (c_v X ρ) := by
  rw [← List.map_reverse, List.reverse_reverse, ← List.map_append, List.take_append_drop]
theorem head_toList {α β : Type} (f : α → β) {vs : List α} (h : Nat.blt vs.length 2 = true) : ((vs.map f).head?).toList = vs.map f := by
  have h : vs.length < 2 := Nat.le_of_ble_eq_true h
  match vs, h with
  | [], _ => rfl
  | [_], _ => rfl
  | _ :: _ :: t, h => simp at h; omega
theorem run_ok (PG : PGok) {l : Launch} (hlt : l.stackTraces = false) {X : eX} {G : eG} {K : List eK} (hG : e_ok0 X G) (hKw : kWf K) (hKk : ∀ k ∈ K, kOk l X k) : ∀ n, RunOk l X G K n := by
  intro n
  induction n with
  | zero => intro y pc ls st h c s f w r hr; cases hr
  | succ n ih =>
    intro y pc ls st h c s f w r hr hw hwl hwh p e R s0 m args below meth cc cA Dg A Q ρ H locs hF hRc hRs hRf hRw hfin
    have hok := PG.1 y pc
    have hmono := run_wf PG hG hKw (n + 1) y pc ls st h c s f w r hr hw hwl hwh
    rw [run_eq] at hr
    split at hr
    · -- a call
      rename_i i a b nx ho
      rw [ho] at hok
      dsimp only at hr
      cases hc : (Nat.ble b st.length && (e_recv i a h (st.take b).reverse && (Nat.ble (e_cat (st.drop b)) 8 && Nat.ble (e_cat (st.take b).reverse) (pg_ml a))))
      · rw [hc] at hr; cases hr
      · rw [hc, cond_true] at hr
        simp only [Bool.and_eq_true] at hc
        obtain ⟨hb, hrecv, hcat8, hcata⟩ := hc
        have hb : b ≤ st.length := Nat.le_of_ble_eq_true hb
        have hcat8 : e_cat (st.drop b) ≤ 8 := Nat.le_of_ble_eq_true hcat8
        have hcata : e_cat (st.take b).reverse ≤ pg_ml a := Nat.le_of_ble_eq_true hcata
        have hwa : e_okS h.length (st.take b).reverse := fun v hv => hw v (List.mem_of_mem_take (List.mem_reverse.mp hv))
        have hwd : e_okS h.length (st.drop b) := fun v hv => hw v (List.mem_of_mem_drop hv)
        have hlen : ((st.take b).reverse.map (c_v X ρ)).length = b := by rw [List.length_map, List.length_reverse, List.length_take]; omega
        intro la hl hP hD hS
        have hA1 : ∀ q, va_A (c_w X cA ρ 0 h) H.size q → A q := fun q hq => by
          rcases hq with ⟨k, e9, hk⟩ | hq
          · exact hD.2 k _ hk
          · exact hF.2.2.1 q (Nat.le_trans hS.1 hq)
        have hpre : ∀ U : State, U.heap = H → s0.WarmedH U.vm → ePc X cA Dg ρ (st.take b).reverse h H.size ((st.take b).reverse.map (c_v X ρ)).toArray U := fun U hU hW => by
          refine ⟨rfl, by rw [hU], by rw [hU]; exact hP, va_K.moved hW.alike hF.2.1, hD.weaken (fun _ _ _ _ => trivial), hF.2.2.2.moved hW (fun q h1 h2 => by rw [hU]; exact hS.2.1 q h1 h2) hA1⟩
        have hrv : eRecv i (m_d a) s0 H ((st.take b).reverse.map (c_v X ρ)) := recv_ok PG hF.2.1 hF.2.2.2 hS hP hrecv
        have hsz : la.size = (m_d y).2.2.1 := hl.1
        split at hr
        · -- it returns
          rename_i x9 l9 vs h' c' s' f' w' hcall
          cases hv2 : Nat.blt vs.length 2
          · rw [hv2] at hr; cases hr
          · rw [hv2, cond_true] at hr
            obtain ⟨a1, a2, a3, a4, a5, a6, a7, a8⟩ := cal_wf (fun r9 => run_wf PG hG hKw n a 0 _ _ h 0 0 0 0 r9) hKw hcall hwa hwh
            have hwvs : e_okS h'.length (vs ++ st.drop b) := fun v hv => (List.mem_append.mp hv).elim (a2 v) (fun q => (hwd v q).mono a1)
            have hm2 := run_wf PG hG hKw n y nx ls _ h' _ _ _ _ r hr hwvs (hwl.mono a1) a4
            have hM := cal_met PG hKk ih hcall hwa hwh hcata cA Dg ρ H.size (eQc X cA Dg ρ h vs h' (va_A (c_w X cA ρ 0 h) H.size)) (fun _ _ _ => False) (Or.inl ⟨rfl, rfl, rfl⟩)
            have b5 := hm2.2.2.2.2.1
            have b6 := hm2.2.2.2.2.2.1
            have b7 := hm2.2.2.2.2.2.2.1
            have b8 := hm2.2.2.2.2.2.2.2
            have b7r := max_r f (f' + 1)
            have b8r := max_r w (19 + pg_ml a + w')
            have er := hok.1 p l e R s0 m args below meth cc H locs c s _ _ _ _ c' s' _ _ ((st.drop b).map (c_v X ρ)) la cA Dg hF.1 hF.2.1 hsz hM (fun _ _ _ q => q) rfl rfl (by show f' + 1 ≤ R.frames; omega) (by rw [← PG.2.1 a]; show 19 + pg_ml a + w' ≤ R.locals; omega) (by omega) (by omega) ePc.blind hlen hpre hrv (by rw [c_cats]; exact hcat8)
            rw [call_stack] at er
            refine eRun.go er (fun v st₀ t L h0 hL hal hq => ?_) (fun q st₀ t L E ce h0 hL hal hx _ _ _ => absurd hx id)
            obtain ⟨⟨ρ', hρ, hv, hP', hD'⟩, hFr⟩ := hq
            have hv : v = (vs.map (c_v X ρ')).head? := by injection hv
            have hS' := va_S.call hS h0 hFr hA1 hL
            have k2 := ih y nx ls (vs ++ st.drop b) h' _ _ _ _ r hr hwvs (hwl.mono a1) a4 p e R s0 m args below meth cc cA Dg A Q ρ' t.heap (locs ++ L) hF hRc hRs hRf hRw (hfin.mono a1 hρ) la (by rw [c_ls_congr hwl hρ]; exact hl) hP' (hD'.weaken (fun _ _ _ q => hA1 _ q)) hS'
            rw [hv, head_toList (c_v X ρ') hv2]
            rw [List.map_append, c_st_congr hwd hρ] at k2
            exact k2
        · -- it throws
          rename_i E x9 l9 h' c' s' f' w' hcall
          obtain ⟨a1, a2, a3, a4, a5, a6, a7, a8⟩ := cal_wf (fun r9 => run_wf PG hG hKw n a 0 _ _ h 0 0 0 0 r9) hKw hcall hwa hwh
          cases hi : (Nat.beq i 0 || Nat.beq i 2)
          · rw [hi] at hr; cases hr
          · rw [hi, cond_true] at hr
            have hi : i = 0 ∨ i = 2 := by
              simp only [Bool.or_eq_true] at hi
              exact hi.imp beqE beqE
            have hM := cal_met PG hKk ih hcall hwa hwh hcata cA Dg ρ H.size (fun _ _ _ _ => False) (eXc X cA Dg ρ h (eName E) h' (va_A (c_w X cA ρ 0 h) H.size)) (Or.inr ⟨rfl, rfl⟩)
            have b5 := hmono.2.2.2.2.1
            have b7r := max_r f (f' + 1)
            have b8r := max_r w (19 + pg_ml a + w')
            have er := fun (h1 : c + c' ≤ r.2.2.2.2.2.1) (h2 : s + s' ≤ r.2.2.2.2.2.2.1) (h3 : e_max f (f' + 1) ≤ r.2.2.2.2.2.2.2.1) (h4 : e_max w (19 + pg_ml a + w') ≤ r.2.2.2.2.2.2.2.2) => hok.2 hi p l e R s0 m args below meth cc H locs c s _ _ _ _ c' s' _ _ ((st.drop b).map (c_v X ρ)) la hF.1 hsz hM rfl rfl (by show f' + 1 ≤ R.frames; omega) (by rw [← PG.2.1 a]; show 19 + pg_ml a + w' ≤ R.locals; omega) (by omega) (by omega) ePc.blind hlen hpre hrv (by rw [c_cats]; exact hcat8)
            split at hr
            · -- and is caught here
              rename_i k nx' hh
              have hwls : e_okLs h'.length (e_drop1 k ls) := fun q hq => (hwl.mono a1) q (drop1_sub hq)
              obtain ⟨_, _, _, _, m5, m6, m7, m8⟩ := run_wf PG hG hKw n y nx' _ [] h' _ _ _ _ r hr (fun _ h => absurd h List.not_mem_nil) hwls a4
              have er := er m5 m6 m7 m8
              rw [call_stack] at er
              refine eRun.go er (fun v st₀ t L h0 hL hal hq => absurd hq id) (fun q st₀ t L E' ce h0 hL hal hx hce hcv hcl => ?_)
              obtain ⟨rfl, ⟨ρ', hρ, hP', hD'⟩, hFr⟩ := hx
              have hS' := va_S.call hS h0 hFr hA1 hL
              refine PG.2.2.2.1 y pc E k nx' hh p l e R s0 m args below meth cc t.heap (locs ++ L) (c + c') (s + s') Q X A q ce (c_ls X ρ ls) la _ hF.1 hF.2.2.2 hce hcv hcl hl (fun la' hl' => ?_)
              rw [c_drop1] at hl'
              exact ih y nx' (e_drop1 k ls) [] h' _ _ _ _ r hr (fun _ h => absurd h List.not_mem_nil) hwls a4 p e R s0 m args below meth cc cA Dg A Q ρ' t.heap (locs ++ L) hF hRc hRs hRf hRw (hfin.mono a1 hρ) la' (by rw [c_ls_congr (fun q hq => hwl q (drop1_sub hq)) hρ]; exact hl') hP' (hD'.weaken (fun _ _ _ q => hA1 _ q)) hS'
            · -- and goes on to the caller
              cases hn : pg_nt y
              · rw [hn] at hr; cases hr
              · rw [hn] at hr
                cases hr
                have er := er (Nat.le_refl _) (Nat.le_refl _) (Nat.le_refl _) (Nat.le_refl _)
                rw [call_stack] at er
                refine eRun.go er (fun v st₀ t L h0 hL hal hq => absurd hq id) (fun q st₀ t L E' ce h0 hL hal hx hce hcv hcl => ?_)
                obtain ⟨rfl, ⟨ρ', hρ, hP', hD'⟩, hFr⟩ := hx
                have hS' := va_S.call hS h0 hFr hA1 hL
                obtain ⟨Qc, XC, mc, ms, free, rfl, h2, h3, h4, h5⟩ := hfin
                refine vx_out (fun x hx => ?_) hF.1.2.2.2.2.2.2.1 hce hcv hcl (fun t2 ht2 hal2 => h5 ρ' t2 (locs ++ L) hρ (by rw [ht2]; exact hP') (hD'.weaken (fun _ _ _ q => hA1 _ q)) (by rw [ht2]; exact hS') hal2) (fun q hq => h4 _ (hS'.2.2 q hq)) h2 h3
                rw [hF.1.2.2.2.2.2.2.2.2.2, PG.2.2.1 y hn] at hx
                exact absurd hx List.not_mem_nil
        · cases hr
    · -- an end
      rename_i i9 z1 z2 z3 ho
      rw [ho] at hok
      split at hr
      · split at hr
        · cases hr
          intro la hl hP hD hS
          obtain ⟨Qc, XC, mc, ms, free, rfl, h2, h3, h4, h5⟩ := hfin
          exact hok p l e R s0 m args below meth cc H locs c s Qc XC mc ms free la hF.1 (fun t ht hW => h5 ρ t locs (fun _ _ => rfl) (by rw [ht]; exact hP) hD (by rw [ht]; exact hS) hW) (fun q hq => h4 _ (hS.2.2 q hq)) h2 h3
        · cases hr
      · rename_i hne
        split at hr
        · rename_i v
          rw [Bool.cond_eq_ite] at hr
          split at hr
          · rename_i hk
            cases hr
            intro la hl hP hD hS
            obtain ⟨Qc, XC, mc, ms, free, rfl, h2, h3, h4, h5⟩ := hfin
            have hok : okRet (m_d y) pc i9 := by
              match i9, hne, hok with
              | 0, hne, _ => exact absurd rfl hne
              | i + 1, _, hok => exact hok
            exact hok p l e R s0 m args below meth cc H locs c s Qc XC mc ms free (c_v X ρ v) la hF.1 (rk_ok X ρ hk) (fun t ht hW => h5 ρ t locs (fun _ _ => rfl) (by rw [ht]; exact hP) hD (by rw [ht]; exact hS) hW) (fun q hq => h4 _ (hS.2.2 q hq)) h2 h3
          · cases hr
        · cases hr
    · -- a throw
      rename_i z1 E z2 z3 ho
      rw [ho] at hok
      cases hn : pg_nt y
      · rw [hn] at hr; cases hr
      · rw [hn] at hr
        cases hr
        intro la hl hP hD hS
        obtain ⟨Qc, XC, mc, ms, free, rfl, h2, h3, h4, h5⟩ := hfin
        have r1 := max_r f 8
        have r2 := max_r w (e_cat st + 120)
        have hRf : e_max f 8 ≤ R.frames := hRf
        have hRw : e_max w (e_cat st + 120) ≤ R.locals := hRw
        refine hok p l e R s0 m args below meth cc H locs c s X A Qc XC mc ms free _ la hF.1 hlt hF.2.2.2 hS hl.1 (by omega) (by rw [c_cats]; omega) hRc hRs (fun t hal hsz hk => ?_) (fun q hq => h4 _ (hS.2.2 q hq)) h2 h3
        exact h5 ρ t locs (fun _ _ => rfl) (fun k q hq => (hP k q hq).kept (hk _ (hP k q hq).lt)) hD ⟨Nat.le_trans hS.1 hsz, fun q h1 h2 => by rw [hk q (Nat.lt_of_lt_of_le h1 hS.1)]; exact hS.2.1 q h1 h2, hS.2.2⟩ hal
    · -- the end of the walk
      cases hr
      exact hfin ρ H locs (fun _ _ => rfl)
    · -- any other instruction
      split at hr
      · rename_i nx ls' st' h' dc ds df dw hs
        obtain ⟨b1, b2, b3, b4⟩ := wf_all hG hok hs hw hwl hwh
        obtain ⟨_, _, _, _, m5, m6, m7, m8⟩ := run_wf PG hG hKw n y nx ls' st' h' _ _ _ _ r hr b2 b3 b4
        have r1 := max_r f df
        have r2 := max_r w dw
        exact step_all hG hF hok hs hw hwl hwh (by show c + dc ≤ R.cells; omega) (by show s + ds ≤ R.slots; omega) (by show df ≤ R.frames; omega) (by show dw ≤ R.locals; omega) (fun ρ' H' locs' hρ => ih y nx ls' st' h' _ _ _ _ r hr b2 b3 b4 p e R s0 m args below meth cc cA Dg A Q ρ' H' locs' hF hRc hRs hRf hRw (hfin.mono b1 hρ))
      · cases hr
