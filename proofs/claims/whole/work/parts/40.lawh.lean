set_option maxHeartbeats 4000000 in
set_option maxRecDepth 100000 in
/-- the law's own bound: it answers 0 with the value in its cell, or 1 -/
theorem cL_bound_ok (l : Launch) (dC : Nat → ClassId) (dI : Nat → Nat → Nat) (h a1 a2 a3 a4 a5 a6 a7 : Nat) (cI cL cZ : ClassId) (cnt onc : Nat) (fp sp : Nat → Nat) (mo : Nat → Int64) (on : Nat → Bool) (lf : Nat → Int64) (sf : Nat → Int32) (rp : Nat → Nat) (rs : Nat) (rl : Int64) (ao : Nat) (ov : Nat → Int64) (sz : Nat) (hst : l.stackTraces = false) (g : tn_good cnt fp sp mo) (ok : tn_ok (tn_E cnt fp sp mo on)) (x y : Int32) : Met l yL_bound wsL_bound ({ frames := 7, cells := 1, slots := 6, locals := 103 }) (va_Pc [.ref h, .int x, .int y, .ref ao] (tn_PreX dC dI (tn_tys cI cL cZ) ((tn_ws h a1 a2 a3 a4 a5 a6 a7 cI cL cZ cnt onc fp sp mo on lf sf rp rs rl) ++ [(ao, .inl (cL, 1, .inr (.inl ov)))]) sz)) (va_Qi (S := tn_D × (Nat → Int64)) (fun r u => (∃ a b, a < 20 ∧ b < 20 ∧ x = nI a ∧ y = nI b ∧ r = nI 0 ∧ sp_bound (tn_E cnt fp sp mo on) a b (u.2 0)) ∨ ((∀ a b, a < 20 → b < 20 → ¬ (x = nI a ∧ y = nI b)) ∧ r = nI 1)) (fun u t => tn_at dC dI (tn_tys cI cL cZ) (va_A ((tn_ws h a1 a2 a3 a4 a5 a6 a7 cI cL cZ cnt onc fp sp mo on lf sf rp rs rl) ++ [(ao, .inl (cL, 1, .inr (.inl ov)))]) sz) ((tn_ws h a1 a2 a3 a4 a5 a6 a7 cI cL cZ cnt onc fp sp mo on u.1.1 u.1.2 rp rs rl) ++ [(ao, .inl (cL, 1, .inr (.inl u.2)))]) t) (va_A ((tn_ws h a1 a2 a3 a4 a5 a6 a7 cI cL cZ cnt onc fp sp mo on lf sf rp rs rl) ++ [(ao, .inl (cL, 1, .inr (.inl ov)))]) sz)) 1 6 (va_A ((tn_ws h a1 a2 a3 a4 a5 a6 a7 cI cL cZ cnt onc fp sp mo on lf sf rp rs rl) ++ [(ao, .inl (cL, 1, .inr (.inl ov)))]) sz) := by
  refine va_MetW (cc := cL_bound) (maxL := 5) (ret := (some .int)) (hh := [(0, 9, 12, 13)]) (by decide) rfl ?_
  intro p e s m args below meth c s₁ B hml hv
  obtain ⟨rfl, ⟨hsz, hP, hK, hD0⟩, hfc, hZs⟩ := hv
  have hx := B.exec
  have hb := B.bytes
  have hr := B.returns
  have hts := atoms_spec (ws := wsL_bound) B.pre
  have hown : s.vm.findClass RL = some m.cls := findClass_of_methodNamed B.named
  have hlocks := B.notSynchronized
  have htab := vx_table (x := yL_bound) B (hts _ List.mem_cons_self)
  subst hsz
  have hD := hD0.self (sz := s.heap.size)
  generalize hAe : va_A ((tn_ws h a1 a2 a3 a4 a5 a6 a7 cI cL cZ cnt onc fp sp mo on lf sf rp rs rl) ++ [(ao, .inl (cL, 1, .inr (.inl ov)))]) s.heap.size = A at hD hZs ⊢
  have hA : ∀ q : Nat, s.heap.size ≤ q → A q := fun q h => by rw [← hAe]; exact Or.inr h
  have hS : va_S A s.heap s.heap [] := va_S.rf
  have hl := lv_entry ([.ref h, .int x, .int y, .ref ao]) (n := 5) (Nat.le_of_ble_eq_true rfl)
  rw [lg_entry_eq]
  generalize (lg_sl ([.ref h, .int x, .int y, .ref ao]) ++ List.replicate (5 - (lg_sl ([.ref h, .int x, .int y, .ref ao])).length) Slot.unset).toArray = ls at hl ⊢
  have hl : lv_has ls 5 [(0, .ref h), (1, .int x), (2, .int y), (3, .ref ao)] := hl
  refine lv_aload_n hx hb dL_bound_0 rfl (lv_at hl 3 rfl) ?_
  refine lv_iconst (v := nI 0) hx hb dL_bound_1 (by decide) ?_
  refine lv_aload_n hx hb dL_bound_2 rfl (lv_at hl 0 rfl) ?_
  refine lv_iload_n hx hb dL_bound_3 rfl (lv_at hl 1 rfl) ?_
  refine lv_iload_n hx hb dL_bound_4 rfl (lv_at hl 2 rfl) ?_
  have hPx := tn_P_l hP
  have hDx := tn_D_l hD
  have hPo := tn_P_r hP
  have hF := tn_freeA hDx hS hA
  refine vx_calll (vx_runV (As := [.int x, .int y]) (rest := [.int (nI 0), .ref ao]) ⟨hx, hb, hml, hown, hts⟩ (cX0_bound_ok l dC dI h a1 a2 a3 a4 a5 a6 a7 cI cL cZ cnt onc fp sp mo on lf sf rp rs rl s.heap.size hst g ok x y) (cwV 2 hts gL_bound_X0_bound rfl rfl rfl (by decide +kernel) ⟨Nat.le_of_ble_eq_true rfl, Nat.le_of_ble_eq_true rfl⟩) (tn_preX hK hPx (tn_D_self hDx) (ci := 0) rfl 0 rfl hfc hZs hS hF) rfl rfl hl.1 rfl (lv_room (Nat.le_of_ble_eq_true rfl)) dL_bound_5 ⟨Nat.le_of_ble_eq_true rfl, Nat.le_of_ble_eq_true rfl⟩) hS (fun q _ h => hF q h) hF (fun q _ h => hF q h) (fun E ce q9 u t H1 locs ht hvm hw hB hz1 hk1 hS hcell hcv hcl => ?_) (fun r u t H1 locs ht hvm hw hB hz1 hk1 hS => ?_)
  · obtain ⟨hE, hP1, -, hD1⟩ := hB
    rw [ht] at hP1
    subst hE
    obtain ⟨hPo1, hDn⟩ := tn_side hPo hD hk1 hF hD1
    refine tn_catch (own := RL) (name := "java/util/NoSuchElementException") hown ⟨0, 9, 12, 13⟩ [] htab (by decide) (by decide) (hts (.classLink RL 13 "java/util/NoSuchElementException") (by decide +kernel)) (hfc.use _ (by decide +kernel)) hcell hcv hcl ?_
    refine lv_astore (lv' := [(4, .ref q9), (0, .ref h), (1, .int x), (2, .int y), (3, .ref ao)]) hx hb dL_bound_12 hl (by decide) rfl (fun ls hl => ?_)
    refine lv_iconst (v := nI 1) hx hb dL_bound_14 (by decide) ?_
    refine W.widen (k := 1) (n := 6) (by omega) (by omega) ?_
    have hPn : va_P (dC, dI) vwCl ((tn_ws h a1 a2 a3 a4 a5 a6 a7 cI cL cZ cnt onc fp sp mo on lf sf rp rs rl) ++ [(ao, .inl (cL, 1, .inr (.inl ov)))]) H1 := va_P.app hP1 hPo1
    exact W.iret (v := nI 1) hx hb hr (fun t ht hW => ⟨⟨nI 1, ((lf, sf), ov), rfl, Or.inr ⟨hw, rfl⟩, by rw [ht]; exact hPn, va_K.moved hW.alike hK, hDn⟩, hS.F ht⟩) hS.2.2 dL_bound_15
  · obtain ⟨hP1, -, hD1⟩ := hB
    rw [ht] at hP1
    obtain ⟨hPo1, hDn⟩ := tn_side hPo hD hk1 hF hD1
    have hPn : va_P (dC, dI) vwCl ((tn_ws h a1 a2 a3 a4 a5 a6 a7 cI cL cZ cnt onc fp sp mo on u.1 u.2 rp rs rl) ++ [(ao, .inl (cL, 1, .inr (.inl ov)))]) H1 := va_P.app hP1 hPo1
    have hDn : va_D A ((tn_ws h a1 a2 a3 a4 a5 a6 a7 cI cL cZ cnt onc fp sp mo on u.1 u.2 rp rs rl) ++ [(ao, .inl (cL, 1, .inr (.inl ov)))]) := hDn
    refine tn_last (i := 0) (f' := vp_updL ov 0 r) hx hb hK hPn hDn hS 8 1 rfl rfl (by omega) (by decide) rfl dL_bound_8 (fun H locs hP hD hS => ?_)
    have hP : va_P (dC, dI) vwCl ((tn_ws h a1 a2 a3 a4 a5 a6 a7 cI cL cZ cnt onc fp sp mo on u.1 u.2 rp rs rl) ++ [(ao, .inl (cL, 1, .inr (.inl (vp_updL ov 0 r))))]) H := hP
    have hD : va_D A ((tn_ws h a1 a2 a3 a4 a5 a6 a7 cI cL cZ cnt onc fp sp mo on u.1 u.2 rp rs rl) ++ [(ao, .inl (cL, 1, .inr (.inl (vp_updL ov 0 r))))]) := hD
    refine lv_goto (tgt := 16) hx hb dL_bound_9 (by decide) ?_
    refine lv_iconst (v := nI 0) hx hb dL_bound_16 (by decide) ?_
    refine W.widen (k := 1) (n := 6) (by omega) (by omega) ?_
    exact W.iret (v := nI 0) hx hb hr (fun t ht hW => ⟨⟨nI 0, (u, vp_updL ov 0 r), rfl, (by obtain ⟨a, b, h1, h2, h3, h4, h5⟩ := hw; exact Or.inl ⟨a, b, h1, h2, h3, h4, rfl, by have e9 : vp_updL ov 0 r 0 = r := pk_uLs; show sp_bound (tn_E cnt fp sp mo on) a b (vp_updL ov 0 r 0); rw [e9]; exact h5⟩), by rw [ht]; exact hP, va_K.moved hW.alike hK, hD⟩, hS.F ht⟩) hS.2.2 dL_bound_17
set_option maxHeartbeats 4000000 in
set_option maxRecDepth 100000 in
/-- the law's own earliest: it answers 0 with the value in its cell, or 1 -/
theorem cL_earliest_ok (l : Launch) (dC : Nat → ClassId) (dI : Nat → Nat → Nat) (h a1 a2 a3 a4 a5 a6 a7 : Nat) (cI cL cZ : ClassId) (cnt onc : Nat) (fp sp : Nat → Nat) (mo : Nat → Int64) (on : Nat → Bool) (lf : Nat → Int64) (sf : Nat → Int32) (rp : Nat → Nat) (rs : Nat) (rl : Int64) (ao : Nat) (ov : Nat → Int64) (sz : Nat) (hst : l.stackTraces = false) (g : tn_good cnt fp sp mo) (ok : tn_ok (tn_E cnt fp sp mo on)) (x : Int32) : Met l yL_earliest wsL_earliest ({ frames := 7, cells := 1, slots := 6, locals := 102 }) (va_Pc [.ref h, .int x, .ref ao] (tn_PreX dC dI (tn_tys cI cL cZ) ((tn_ws h a1 a2 a3 a4 a5 a6 a7 cI cL cZ cnt onc fp sp mo on lf sf rp rs rl) ++ [(ao, .inl (cL, 1, .inr (.inl ov)))]) sz)) (va_Qi (S := tn_D × (Nat → Int64)) (fun r u => (∃ a, a < 20 ∧ x = nI a ∧ r = nI 0 ∧ sp_earl (tn_E cnt fp sp mo on) a (u.2 0)) ∨ ((∀ a, a < 20 → ¬ x = nI a) ∧ r = nI 1)) (fun u t => tn_at dC dI (tn_tys cI cL cZ) (va_A ((tn_ws h a1 a2 a3 a4 a5 a6 a7 cI cL cZ cnt onc fp sp mo on lf sf rp rs rl) ++ [(ao, .inl (cL, 1, .inr (.inl ov)))]) sz) ((tn_ws h a1 a2 a3 a4 a5 a6 a7 cI cL cZ cnt onc fp sp mo on u.1.1 u.1.2 rp rs rl) ++ [(ao, .inl (cL, 1, .inr (.inl u.2)))]) t) (va_A ((tn_ws h a1 a2 a3 a4 a5 a6 a7 cI cL cZ cnt onc fp sp mo on lf sf rp rs rl) ++ [(ao, .inl (cL, 1, .inr (.inl ov)))]) sz)) 1 6 (va_A ((tn_ws h a1 a2 a3 a4 a5 a6 a7 cI cL cZ cnt onc fp sp mo on lf sf rp rs rl) ++ [(ao, .inl (cL, 1, .inr (.inl ov)))]) sz) := by
  refine va_MetW (cc := cL_earliest) (maxL := 4) (ret := (some .int)) (hh := [(0, 8, 11, 13)]) (by decide) rfl ?_
  intro p e s m args below meth c s₁ B hml hv
  obtain ⟨rfl, ⟨hsz, hP, hK, hD0⟩, hfc, hZs⟩ := hv
  have hx := B.exec
  have hb := B.bytes
  have hr := B.returns
  have hts := atoms_spec (ws := wsL_earliest) B.pre
  have hown : s.vm.findClass RL = some m.cls := findClass_of_methodNamed B.named
  have hlocks := B.notSynchronized
  have htab := vx_table (x := yL_earliest) B (hts _ List.mem_cons_self)
  subst hsz
  have hD := hD0.self (sz := s.heap.size)
  generalize hAe : va_A ((tn_ws h a1 a2 a3 a4 a5 a6 a7 cI cL cZ cnt onc fp sp mo on lf sf rp rs rl) ++ [(ao, .inl (cL, 1, .inr (.inl ov)))]) s.heap.size = A at hD hZs ⊢
  have hA : ∀ q : Nat, s.heap.size ≤ q → A q := fun q h => by rw [← hAe]; exact Or.inr h
  have hS : va_S A s.heap s.heap [] := va_S.rf
  have hl := lv_entry ([.ref h, .int x, .ref ao]) (n := 4) (Nat.le_of_ble_eq_true rfl)
  rw [lg_entry_eq]
  generalize (lg_sl ([.ref h, .int x, .ref ao]) ++ List.replicate (4 - (lg_sl ([.ref h, .int x, .ref ao])).length) Slot.unset).toArray = ls at hl ⊢
  have hl : lv_has ls 4 [(0, .ref h), (1, .int x), (2, .ref ao)] := hl
  refine lv_aload_n hx hb dL_earliest_0 rfl (lv_at hl 2 rfl) ?_
  refine lv_iconst (v := nI 0) hx hb dL_earliest_1 (by decide) ?_
  refine lv_aload_n hx hb dL_earliest_2 rfl (lv_at hl 0 rfl) ?_
  refine lv_iload_n hx hb dL_earliest_3 rfl (lv_at hl 1 rfl) ?_
  have hPx := tn_P_l hP
  have hDx := tn_D_l hD
  have hPo := tn_P_r hP
  have hF := tn_freeA hDx hS hA
  refine vx_calll (vx_runV (As := [.int x]) (rest := [.int (nI 0), .ref ao]) ⟨hx, hb, hml, hown, hts⟩ (cX0_earliest_ok l dC dI h a1 a2 a3 a4 a5 a6 a7 cI cL cZ cnt onc fp sp mo on lf sf rp rs rl s.heap.size hst g ok x) (cwV 1 hts gL_earliest_X0_earliest rfl rfl rfl (by decide +kernel) ⟨Nat.le_of_ble_eq_true rfl, Nat.le_of_ble_eq_true rfl⟩) (tn_preX hK hPx (tn_D_self hDx) (ci := 0) rfl 0 rfl hfc hZs hS hF) rfl rfl hl.1 rfl (lv_room (Nat.le_of_ble_eq_true rfl)) dL_earliest_4 ⟨Nat.le_of_ble_eq_true rfl, Nat.le_of_ble_eq_true rfl⟩) hS (fun q _ h => hF q h) hF (fun q _ h => hF q h) (fun E ce q9 u t H1 locs ht hvm hw hB hz1 hk1 hS hcell hcv hcl => ?_) (fun r u t H1 locs ht hvm hw hB hz1 hk1 hS => ?_)
  · obtain ⟨hE, hP1, -, hD1⟩ := hB
    rw [ht] at hP1
    subst hE
    obtain ⟨hPo1, hDn⟩ := tn_side hPo hD hk1 hF hD1
    refine tn_catch (own := RL) (name := "java/util/NoSuchElementException") hown ⟨0, 8, 11, 13⟩ [] htab (by decide) (by decide) (hts (.classLink RL 13 "java/util/NoSuchElementException") (by decide +kernel)) (hfc.use _ (by decide +kernel)) hcell hcv hcl ?_
    refine lv_astore_n (lv' := [(3, .ref q9), (0, .ref h), (1, .int x), (2, .ref ao)]) hx hb dL_earliest_11 rfl hl (by decide) rfl (fun ls hl => ?_)
    refine lv_iconst (v := nI 1) hx hb dL_earliest_12 (by decide) ?_
    refine W.widen (k := 1) (n := 6) (by omega) (by omega) ?_
    have hPn : va_P (dC, dI) vwCl ((tn_ws h a1 a2 a3 a4 a5 a6 a7 cI cL cZ cnt onc fp sp mo on lf sf rp rs rl) ++ [(ao, .inl (cL, 1, .inr (.inl ov)))]) H1 := va_P.app hP1 hPo1
    exact W.iret (v := nI 1) hx hb hr (fun t ht hW => ⟨⟨nI 1, ((lf, sf), ov), rfl, Or.inr ⟨hw, rfl⟩, by rw [ht]; exact hPn, va_K.moved hW.alike hK, hDn⟩, hS.F ht⟩) hS.2.2 dL_earliest_13
  · obtain ⟨hP1, -, hD1⟩ := hB
    rw [ht] at hP1
    obtain ⟨hPo1, hDn⟩ := tn_side hPo hD hk1 hF hD1
    have hPn : va_P (dC, dI) vwCl ((tn_ws h a1 a2 a3 a4 a5 a6 a7 cI cL cZ cnt onc fp sp mo on u.1 u.2 rp rs rl) ++ [(ao, .inl (cL, 1, .inr (.inl ov)))]) H1 := va_P.app hP1 hPo1
    have hDn : va_D A ((tn_ws h a1 a2 a3 a4 a5 a6 a7 cI cL cZ cnt onc fp sp mo on u.1 u.2 rp rs rl) ++ [(ao, .inl (cL, 1, .inr (.inl ov)))]) := hDn
    refine tn_last (i := 0) (f' := vp_updL ov 0 r) hx hb hK hPn hDn hS 8 1 rfl rfl (by omega) (by decide) rfl dL_earliest_7 (fun H locs hP hD hS => ?_)
    have hP : va_P (dC, dI) vwCl ((tn_ws h a1 a2 a3 a4 a5 a6 a7 cI cL cZ cnt onc fp sp mo on u.1 u.2 rp rs rl) ++ [(ao, .inl (cL, 1, .inr (.inl (vp_updL ov 0 r))))]) H := hP
    have hD : va_D A ((tn_ws h a1 a2 a3 a4 a5 a6 a7 cI cL cZ cnt onc fp sp mo on u.1 u.2 rp rs rl) ++ [(ao, .inl (cL, 1, .inr (.inl (vp_updL ov 0 r))))]) := hD
    refine lv_goto (tgt := 14) hx hb dL_earliest_8 (by decide) ?_
    refine lv_iconst (v := nI 0) hx hb dL_earliest_14 (by decide) ?_
    refine W.widen (k := 1) (n := 6) (by omega) (by omega) ?_
    exact W.iret (v := nI 0) hx hb hr (fun t ht hW => ⟨⟨nI 0, (u, vp_updL ov 0 r), rfl, (by obtain ⟨a, h1, h3, h5⟩ := hw; exact Or.inl ⟨a, h1, h3, rfl, by have e9 : vp_updL ov 0 r 0 = r := pk_uLs; show sp_earl (tn_E cnt fp sp mo on) a (vp_updL ov 0 r 0); rw [e9]; exact h5⟩), by rw [ht]; exact hP, va_K.moved hW.alike hK, hD⟩, hS.F ht⟩) hS.2.2 dL_earliest_15
