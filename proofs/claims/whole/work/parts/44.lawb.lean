set_option maxHeartbeats 4000000 in
set_option maxRecDepth 100000 in
theorem law_c6 {p : Program} {l : Launch} {e : Env} {s : State} {m : MethodId} {below : List Frame} {meth : Method} {c : Code} {b L : Nat} {xs : Nat → Int32} {dC : Nat → ClassId} {dI : Nat → Nat → Nat} {h a1 a2 a3 a4 a5 a6 a7 k0 b1 b2 b3 b4 b5 b6 ao : Nat} {cI cL cZ : ClassId} (C : tl_C p l s m meth c b L xs dC dI cI cL cZ) {q : Nat} (hq : 5 * q + 5 ≤ L) (K : tl_K p l e s m below meth c b dC dI h a1 a2 a3 a4 a5 a6 a7 k0 b1 b2 b3 b4 b5 b6 ao cI cL cZ q 518 (16 + (q + 1)) (1489 + 6 * (q + 1))) : tl_K p l e s m below meth c b dC dI h a1 a2 a3 a4 a5 a6 a7 k0 b1 b2 b3 b4 b5 b6 ao cI cL cZ q 372 (16 + q) (1489 + 6 * q) := by
  obtain ⟨C0, hK, hfc, hZs, hst, hL⟩ := C
  obtain ⟨hx, hb, hr, hml, hown, hts0, hX, hbl, hlocks, hgv⟩ := C0
  have hts := fun w h => hts0 w (wsL_law_in w h)
  have hown : s.vm.findClass RL = some m.cls := hown
  have hA : ∀ q : Nat, s.heap.size ≤ q → (fun q : Nat => s.heap.size ≤ q) q := fun _ h => h
  have hbA : ¬ (fun q : Nat => s.heap.size ≤ q) b := Nat.not_le.mpr hbl
  intro cnt onc fp sp mo on lf sf rp rs rl th cnt2 fp2 sp2 mo2 on2 rs2 rw rl2 le bl bs ov H locs ls hinv hPx hPm hPo hD hS hl
  obtain ⟨⟨e1, e2, e3, e4, e5, e6, e7⟩, -⟩ := id hinv
  have e1 := e1.symm
  subst e1
  have e2 := e2.symm
  subst e2
  have e3 := e3.symm
  subst e3
  have e4 := e4.symm
  subst e4
  have e5 := e5.symm
  subst e5
  have e6 := e6.symm
  subst e6
  have e7 := e7.symm
  subst e7
  obtain ⟨-, g, ok, hoc, hrs, hrow, hrl⟩ := id hinv
  refine lv_aload_n hx hb dL_law_372 rfl (lv_at hl 1 rfl) ?_
  have hDc := hD
  have hF := tn_freeA (tn_D_l hDc) hS hA
  refine va_calli (va_runV (As := []) (rest := []) ⟨hx, hb, hml, hown, hts⟩ (cX0_row_ok l dC dI h a1 a2 a3 a4 a5 a6 a7 cI cL cZ cnt onc fp sp mo on lf sf rp rs rl H.size ) (cwV 0 hts gL_law_X0_row rfl rfl rfl (by decide +kernel) ⟨Nat.le_of_ble_eq_true rfl, Nat.le_of_ble_eq_true rfl⟩) (tn_preV hK hPx (tn_D_l hDc) (ci := 0) rfl 0 rfl) rfl rfl hl.1 rfl (lv_room (Nat.le_of_ble_eq_true rfl)) dL_law_373 ⟨by show 16 + q + 0 ≤ 1042; omega, by show 1489 + 6 * q + 0 ≤ 9693; omega⟩) hS (fun q _ h => hF q h) hF (fun r_373 u_373 t H1 locs ht hvm hw_373 hB hz1 hk1 hS => ?_)
  obtain ⟨hPx, -, hD1⟩ := hB
  rw [ht] at hPx
  obtain ⟨hR, hD⟩ := tn_side (va_P.app hPm hPo) hDc hk1 hF hD1
  have hPm := tn_P_l hR
  have hPo := tn_P_r hR
  refine W.cs (cells' := 16 + q) (slots' := 1489 + 6 * q) (Nat.add_zero _) (Nat.add_zero _) ?_
  clear hDc hF hz1 hk1 hD1 ht hvm
  clear hR
  generalize H1 = H at hPx hPm hPo hS ⊢
  refine lv_aload_n hx hb dL_law_376 rfl (lv_at hl 2 rfl) ?_
  have hDc := tn_D_swap hD
  rw [List.append_assoc] at hDc
  have hF := tn_freeA (tn_D_l hDc) hS hA
  refine va_calli (va_runV (As := []) (rest := [.int r_373]) ⟨hx, hb, hml, hown, hts⟩ (cX1_row_ok l dC dI k0 b1 b2 b3 b4 b5 b6 cI cL cZ th cnt fp sp mo on rs rw rl le bl bs H.size ) (cwV 0 hts gL_law_X1_row rfl rfl rfl (by decide +kernel) ⟨Nat.le_of_ble_eq_true rfl, Nat.le_of_ble_eq_true rfl⟩) (tn_preV hK hPm (tn_D_l hDc) (ci := 1) rfl 0 rfl) rfl rfl hl.1 rfl (lv_room (Nat.le_of_ble_eq_true rfl)) dL_law_377 ⟨by show 16 + q + 0 ≤ 1042; omega, by show 1489 + 6 * q + 0 ≤ 9693; omega⟩) hS (fun q _ h => hF q h) hF (fun r_377 u_377 t H1 locs ht hvm hw_377 hB hz1 hk1 hS => ?_)
  obtain ⟨hPm, -, hD1⟩ := hB
  rw [ht] at hPm
  obtain ⟨hR, hD9⟩ := tn_side (va_P.app hPo hPx) hDc hk1 hF hD1
  have hPo := tn_P_l hR
  have hPx := tn_P_r hR
  rw [← List.append_assoc] at hD9
  have hD := tn_D_swap hD9
  refine W.cs (cells' := 16 + q) (slots' := 1489 + 6 * q) (Nat.add_zero _) (Nat.add_zero _) ?_
  clear hDc hF hz1 hk1 hD1 ht hvm
  clear hR
  generalize H1 = H at hPx hPm hPo hS ⊢
  refine lv_icmp_eq (tgt := 518) hx hb dL_law_380 (by decide) (fun c_380 => ?_) (fun c_380 => ?_)
  · skip
    refine W.widen (k := 16 + (q + 1)) (n := 1489 + 6 * (q + 1)) (by omega) (by omega) ?_
    exact K _ _ _ _ _ _ _ _ _ _ _ _ _ _ _ _ _ _ _ _ _ _ _ _ _ _ _ hinv hPx hPm hPo hD hS (lv_sub hl [0, 1, 2, 3, 4] rfl)
  · skip
    exact absurd (Eq.trans hw_373 (Eq.symm hw_377)) c_380
set_option maxHeartbeats 4000000 in
set_option maxRecDepth 100000 in
theorem law_c7 {p : Program} {l : Launch} {e : Env} {s : State} {m : MethodId} {below : List Frame} {meth : Method} {c : Code} {b L : Nat} {xs : Nat → Int32} {dC : Nat → ClassId} {dI : Nat → Nat → Nat} {h a1 a2 a3 a4 a5 a6 a7 k0 b1 b2 b3 b4 b5 b6 ao : Nat} {cI cL cZ : ClassId} (C : tl_C p l s m meth c b L xs dC dI cI cL cZ) {q : Nat} (hq : 5 * q + 5 ≤ L) (K : tl_K p l e s m below meth c b dC dI h a1 a2 a3 a4 a5 a6 a7 k0 b1 b2 b3 b4 b5 b6 ao cI cL cZ q 518 (16 + (q + 1)) (1489 + 6 * (q + 1))) : tl_K p l e s m below meth c b dC dI h a1 a2 a3 a4 a5 a6 a7 k0 b1 b2 b3 b4 b5 b6 ao cI cL cZ q 385 (16 + q) (1489 + 6 * q) := by
  obtain ⟨C0, hK, hfc, hZs, hst, hL⟩ := C
  obtain ⟨hx, hb, hr, hml, hown, hts0, hX, hbl, hlocks, hgv⟩ := C0
  have hts := fun w h => hts0 w (wsL_law_in w h)
  have hown : s.vm.findClass RL = some m.cls := hown
  have hA : ∀ q : Nat, s.heap.size ≤ q → (fun q : Nat => s.heap.size ≤ q) q := fun _ h => h
  have hbA : ¬ (fun q : Nat => s.heap.size ≤ q) b := Nat.not_le.mpr hbl
  intro cnt onc fp sp mo on lf sf rp rs rl th cnt2 fp2 sp2 mo2 on2 rs2 rw rl2 le bl bs ov H locs ls hinv hPx hPm hPo hD hS hl
  obtain ⟨⟨e1, e2, e3, e4, e5, e6, e7⟩, -⟩ := id hinv
  have e1 := e1.symm
  subst e1
  have e2 := e2.symm
  subst e2
  have e3 := e3.symm
  subst e3
  have e4 := e4.symm
  subst e4
  have e5 := e5.symm
  subst e5
  have e6 := e6.symm
  subst e6
  have e7 := e7.symm
  subst e7
  obtain ⟨-, g, ok, hoc, hrs, hrow, hrl⟩ := id hinv
  refine lv_aload_n hx hb dL_law_385 rfl (lv_at hl 1 rfl) ?_
  refine lv_aload_n hx hb dL_law_386 rfl (lv_at hl 0 rfl) ?_
  refine lv_iload hx hb dL_law_387 (lv_at hl 4 rfl) ?_
  refine lv_iconst (v := nI 1) hx hb dL_law_389 (by decide) ?_
  refine tn_iadd (a := (5 * q)) (b := 1) hx hb dL_law_390 ?_
  refine tn_sld (i := ((5 * q) + 1)) hx hb hX hbl hbA hS (by omega) (by omega) dL_law_391 ?_
  have hDc := hD
  have hF := tn_freeA (tn_D_l hDc) hS hA
  refine va_calli (va_runV (As := [.int (xs ((5 * q) + 1))]) (rest := []) ⟨hx, hb, hml, hown, hts⟩ (cX0_rowAt_ok l dC dI h a1 a2 a3 a4 a5 a6 a7 cI cL cZ cnt onc fp sp mo on lf sf rp rs rl H.size hrs (xs (5 * q + 1))) (cwV 1 hts gL_law_X0_rowAt rfl rfl rfl (by decide +kernel) ⟨Nat.le_of_ble_eq_true rfl, Nat.le_of_ble_eq_true rfl⟩) (tn_preV hK hPx (tn_D_l hDc) (ci := 0) rfl 0 rfl) rfl rfl hl.1 rfl (lv_room (Nat.le_of_ble_eq_true rfl)) dL_law_392 ⟨by show 16 + q + 0 ≤ 1042; omega, by show 1489 + 6 * q + 0 ≤ 9693; omega⟩) hS (fun q _ h => hF q h) hF (fun r_392 u_392 t H1 locs ht hvm hw_392 hB hz1 hk1 hS => ?_)
  obtain ⟨hPx, -, hD1⟩ := hB
  rw [ht] at hPx
  obtain ⟨hR, hD⟩ := tn_side (va_P.app hPm hPo) hDc hk1 hF hD1
  have hPm := tn_P_l hR
  have hPo := tn_P_r hR
  refine W.cs (cells' := 16 + q) (slots' := 1489 + 6 * q) (Nat.add_zero _) (Nat.add_zero _) ?_
  clear hDc hF hz1 hk1 hD1 ht hvm
  clear hR
  generalize H1 = H at hPx hPm hPo hS ⊢
  refine lv_aload_n hx hb dL_law_395 rfl (lv_at hl 2 rfl) ?_
  refine lv_aload_n hx hb dL_law_396 rfl (lv_at hl 0 rfl) ?_
  refine lv_iload hx hb dL_law_397 (lv_at hl 4 rfl) ?_
  refine lv_iconst (v := nI 1) hx hb dL_law_399 (by decide) ?_
  refine tn_iadd (a := (5 * q)) (b := 1) hx hb dL_law_400 ?_
  refine tn_sld (i := ((5 * q) + 1)) hx hb hX hbl hbA hS (by omega) (by omega) dL_law_401 ?_
  have hDc := tn_D_swap hD
  rw [List.append_assoc] at hDc
  have hF := tn_freeA (tn_D_l hDc) hS hA
  refine va_calli (va_runV (As := [.int (xs ((5 * q) + 1))]) (rest := [.int r_392]) ⟨hx, hb, hml, hown, hts⟩ (cX1_rowAt_ok l dC dI k0 b1 b2 b3 b4 b5 b6 cI cL cZ th cnt fp sp mo on rs rw rl le bl bs H.size (by omega) (xs (5 * q + 1))) (cwV 1 hts gL_law_X1_rowAt rfl rfl rfl (by decide +kernel) ⟨Nat.le_of_ble_eq_true rfl, Nat.le_of_ble_eq_true rfl⟩) (tn_preV hK hPm (tn_D_l hDc) (ci := 1) rfl 0 rfl) rfl rfl hl.1 rfl (lv_room (Nat.le_of_ble_eq_true rfl)) dL_law_402 ⟨by show 16 + q + 0 ≤ 1042; omega, by show 1489 + 6 * q + 0 ≤ 9693; omega⟩) hS (fun q _ h => hF q h) hF (fun r_402 u_402 t H1 locs ht hvm hw_402 hB hz1 hk1 hS => ?_)
  obtain ⟨hPm, -, hD1⟩ := hB
  rw [ht] at hPm
  obtain ⟨hR, hD9⟩ := tn_side (va_P.app hPo hPx) hDc hk1 hF hD1
  have hPo := tn_P_l hR
  have hPx := tn_P_r hR
  rw [← List.append_assoc] at hD9
  have hD := tn_D_swap hD9
  refine W.cs (cells' := 16 + q) (slots' := 1489 + 6 * q) (Nat.add_zero _) (Nat.add_zero _) ?_
  clear hDc hF hz1 hk1 hD1 ht hvm
  clear hR
  generalize H1 = H at hPx hPm hPo hS ⊢
  refine lv_icmp_eq (tgt := 518) hx hb dL_law_405 (by decide) (fun c_405 => ?_) (fun c_405 => ?_)
  · skip
    refine W.widen (k := 16 + (q + 1)) (n := 1489 + 6 * (q + 1)) (by omega) (by omega) ?_
    exact K _ _ _ _ _ _ _ _ _ _ _ _ _ _ _ _ _ _ _ _ _ _ _ _ _ _ _ hinv hPx hPm hPo hD hS (lv_sub hl [0, 1, 2, 3, 4] rfl)
  · skip
    exact absurd (tl_rowAt hinv hw_392 hw_402) c_405
set_option maxHeartbeats 4000000 in
set_option maxRecDepth 100000 in
theorem law_c8 {p : Program} {l : Launch} {e : Env} {s : State} {m : MethodId} {below : List Frame} {meth : Method} {c : Code} {b L : Nat} {xs : Nat → Int32} {dC : Nat → ClassId} {dI : Nat → Nat → Nat} {h a1 a2 a3 a4 a5 a6 a7 k0 b1 b2 b3 b4 b5 b6 ao : Nat} {cI cL cZ : ClassId} (C : tl_C p l s m meth c b L xs dC dI cI cL cZ) {q : Nat} (hq : 5 * q + 5 ≤ L) (K : tl_K p l e s m below meth c b dC dI h a1 a2 a3 a4 a5 a6 a7 k0 b1 b2 b3 b4 b5 b6 ao cI cL cZ q 518 (16 + (q + 1)) (1489 + 6 * (q + 1))) : tl_K p l e s m below meth c b dC dI h a1 a2 a3 a4 a5 a6 a7 k0 b1 b2 b3 b4 b5 b6 ao cI cL cZ q 410 (16 + q) (1489 + 6 * q) := by
  obtain ⟨C0, hK, hfc, hZs, hst, hL⟩ := C
  obtain ⟨hx, hb, hr, hml, hown, hts0, hX, hbl, hlocks, hgv⟩ := C0
  have hts := fun w h => hts0 w (wsL_law_in w h)
  have hown : s.vm.findClass RL = some m.cls := hown
  have hA : ∀ q : Nat, s.heap.size ≤ q → (fun q : Nat => s.heap.size ≤ q) q := fun _ h => h
  have hbA : ¬ (fun q : Nat => s.heap.size ≤ q) b := Nat.not_le.mpr hbl
  intro cnt onc fp sp mo on lf sf rp rs rl th cnt2 fp2 sp2 mo2 on2 rs2 rw rl2 le bl bs ov H locs ls hinv hPx hPm hPo hD hS hl
  obtain ⟨⟨e1, e2, e3, e4, e5, e6, e7⟩, -⟩ := id hinv
  have e1 := e1.symm
  subst e1
  have e2 := e2.symm
  subst e2
  have e3 := e3.symm
  subst e3
  have e4 := e4.symm
  subst e4
  have e5 := e5.symm
  subst e5
  have e6 := e6.symm
  subst e6
  have e7 := e7.symm
  subst e7
  obtain ⟨-, g, ok, hoc, hrs, hrow, hrl⟩ := id hinv
  refine lv_aload_n hx hb dL_law_410 rfl (lv_at hl 1 rfl) ?_
  have hDc := hD
  have hF := tn_freeA (tn_D_l hDc) hS hA
  refine va_calll (va_runV (As := []) (rest := []) ⟨hx, hb, hml, hown, hts⟩ (cX0_length_ok l dC dI h a1 a2 a3 a4 a5 a6 a7 cI cL cZ cnt onc fp sp mo on lf sf rp rs rl H.size ) (cwV 0 hts gL_law_X0_length rfl rfl rfl (by decide +kernel) ⟨Nat.le_of_ble_eq_true rfl, Nat.le_of_ble_eq_true rfl⟩) (tn_preV hK hPx (tn_D_l hDc) (ci := 0) rfl 0 rfl) rfl rfl hl.1 rfl (lv_room (Nat.le_of_ble_eq_true rfl)) dL_law_411 ⟨by show 16 + q + 0 ≤ 1042; omega, by show 1489 + 6 * q + 0 ≤ 9693; omega⟩) hS (fun q _ h => hF q h) hF (fun r_411 u_411 t H1 locs ht hvm hw_411 hB hz1 hk1 hS => ?_)
  obtain ⟨hPx, -, hD1⟩ := hB
  rw [ht] at hPx
  obtain ⟨hR, hD⟩ := tn_side (va_P.app hPm hPo) hDc hk1 hF hD1
  have hPm := tn_P_l hR
  have hPo := tn_P_r hR
  refine W.cs (cells' := 16 + q) (slots' := 1489 + 6 * q) (Nat.add_zero _) (Nat.add_zero _) ?_
  clear hDc hF hz1 hk1 hD1 ht hvm
  clear hR
  generalize H1 = H at hPx hPm hPo hS ⊢
  refine lv_aload_n hx hb dL_law_414 rfl (lv_at hl 2 rfl) ?_
  have hDc := tn_D_swap hD
  rw [List.append_assoc] at hDc
  have hF := tn_freeA (tn_D_l hDc) hS hA
  refine va_calll (va_runV (As := []) (rest := [.long r_411]) ⟨hx, hb, hml, hown, hts⟩ (cX1_length_ok l dC dI k0 b1 b2 b3 b4 b5 b6 cI cL cZ th cnt fp sp mo on rs rw rl le bl bs H.size (by omega)) (cwV 0 hts gL_law_X1_length rfl rfl rfl (by decide +kernel) ⟨Nat.le_of_ble_eq_true rfl, Nat.le_of_ble_eq_true rfl⟩) (tn_preV hK hPm (tn_D_l hDc) (ci := 1) rfl 0 rfl) rfl rfl hl.1 rfl (lv_room (Nat.le_of_ble_eq_true rfl)) dL_law_415 ⟨by show 16 + q + 0 ≤ 1042; omega, by show 1489 + 6 * q + 0 ≤ 9693; omega⟩) hS (fun q _ h => hF q h) hF (fun r_415 u_415 t H1 locs ht hvm hw_415 hB hz1 hk1 hS => ?_)
  obtain ⟨hPm, -, hD1⟩ := hB
  rw [ht] at hPm
  obtain ⟨hR, hD9⟩ := tn_side (va_P.app hPo hPx) hDc hk1 hF hD1
  have hPo := tn_P_l hR
  have hPx := tn_P_r hR
  rw [← List.append_assoc] at hD9
  have hD := tn_D_swap hD9
  refine W.cs (cells' := 16 + q) (slots' := 1489 + 6 * q) (Nat.add_zero _) (Nat.add_zero _) ?_
  clear hDc hF hz1 hk1 hD1 ht hvm
  clear hR
  generalize H1 = H at hPx hPm hPo hS ⊢
  refine tn_lc_eq (x := r_411) (y := r_415) (tgt := 518) hx hb dL_law_418 dL_law_419 (by decide) (fun c_418 => ?_) (fun c_418 => ?_)
  · skip
    refine W.widen (k := 16 + (q + 1)) (n := 1489 + 6 * (q + 1)) (by omega) (by omega) ?_
    exact K _ _ _ _ _ _ _ _ _ _ _ _ _ _ _ _ _ _ _ _ _ _ _ _ _ _ _ hinv hPx hPm hPo hD hS (lv_sub hl [0, 1, 2, 3, 4] rfl)
  · skip
    exact absurd (tl_length hinv hw_411 hw_415) c_418
set_option maxHeartbeats 4000000 in
set_option maxRecDepth 100000 in
theorem law_c10 {p : Program} {l : Launch} {e : Env} {s : State} {m : MethodId} {below : List Frame} {meth : Method} {c : Code} {b L : Nat} {xs : Nat → Int32} {dC : Nat → ClassId} {dI : Nat → Nat → Nat} {h a1 a2 a3 a4 a5 a6 a7 k0 b1 b2 b3 b4 b5 b6 ao : Nat} {cI cL cZ : ClassId} (C : tl_C p l s m meth c b L xs dC dI cI cL cZ) {q : Nat} (hq : 5 * q + 5 ≤ L) (K : tl_K p l e s m below meth c b dC dI h a1 a2 a3 a4 a5 a6 a7 k0 b1 b2 b3 b4 b5 b6 ao cI cL cZ q 518 (16 + (q + 1)) (1489 + 6 * (q + 1))) : tl_K p l e s m below meth c b dC dI h a1 a2 a3 a4 a5 a6 a7 k0 b1 b2 b3 b4 b5 b6 ao cI cL cZ q 479 (16 + q) (1489 + 6 * q) := by
  obtain ⟨C0, hK, hfc, hZs, hst, hL⟩ := C
  obtain ⟨hx, hb, hr, hml, hown, hts0, hX, hbl, hlocks, hgv⟩ := C0
  have hts := fun w h => hts0 w (wsL_law_in w h)
  have hown : s.vm.findClass RL = some m.cls := hown
  have hA : ∀ q : Nat, s.heap.size ≤ q → (fun q : Nat => s.heap.size ≤ q) q := fun _ h => h
  have hbA : ¬ (fun q : Nat => s.heap.size ≤ q) b := Nat.not_le.mpr hbl
  intro cnt onc fp sp mo on lf sf rp rs rl th cnt2 fp2 sp2 mo2 on2 rs2 rw rl2 le bl bs ov H locs ls hinv hPx hPm hPo hD hS hl
  obtain ⟨⟨e1, e2, e3, e4, e5, e6, e7⟩, -⟩ := id hinv
  have e1 := e1.symm
  subst e1
  have e2 := e2.symm
  subst e2
  have e3 := e3.symm
  subst e3
  have e4 := e4.symm
  subst e4
  have e5 := e5.symm
  subst e5
  have e6 := e6.symm
  subst e6
  have e7 := e7.symm
  subst e7
  obtain ⟨-, g, ok, hoc, hrs, hrow, hrl⟩ := id hinv
  refine lv_aload_n hx hb dL_law_479 rfl (lv_at hl 1 rfl) ?_
  refine lv_aload_n hx hb dL_law_480 rfl (lv_at hl 0 rfl) ?_
  refine lv_iload hx hb dL_law_481 (lv_at hl 4 rfl) ?_
  refine lv_iconst (v := nI 1) hx hb dL_law_483 (by decide) ?_
  refine tn_iadd (a := (5 * q)) (b := 1) hx hb dL_law_484 ?_
  refine tn_sld (i := ((5 * q) + 1)) hx hb hX hbl hbA hS (by omega) (by omega) dL_law_485 ?_
  have hDc := hD
  have hF := tn_freeA (tn_D_l hDc) hS hA
  refine va_calll (va_runV (As := [.int (xs ((5 * q) + 1))]) (rest := []) ⟨hx, hb, hml, hown, hts⟩ (cX0_slack_ok l dC dI h a1 a2 a3 a4 a5 a6 a7 cI cL cZ cnt onc fp sp mo on lf sf rp rs rl H.size g ok (xs (5 * q + 1))) (cwV 1 hts gL_law_X0_slack rfl rfl rfl (by decide +kernel) ⟨Nat.le_of_ble_eq_true rfl, Nat.le_of_ble_eq_true rfl⟩) (tn_preV hK hPx (tn_D_l hDc) (ci := 0) rfl 0 rfl) rfl rfl hl.1 rfl (lv_room (Nat.le_of_ble_eq_true rfl)) dL_law_486 ⟨by show 16 + q + 0 ≤ 1042; omega, by show 1489 + 6 * q + 0 ≤ 9693; omega⟩) hS (fun q _ h => hF q h) hF (fun r_486 u_486 t H1 locs ht hvm hw_486 hB hz1 hk1 hS => ?_)
  obtain ⟨hPx, -, hD1⟩ := hB
  rw [ht] at hPx
  obtain ⟨hR, hD⟩ := tn_side (va_P.app hPm hPo) hDc hk1 hF hD1
  have hPm := tn_P_l hR
  have hPo := tn_P_r hR
  refine W.cs (cells' := 16 + q) (slots' := 1489 + 6 * q) (Nat.add_zero _) (Nat.add_zero _) ?_
  clear hDc hF hz1 hk1 hD1 ht hvm
  clear hR
  generalize H1 = H at hPx hPm hPo hS ⊢
  refine lv_aload_n hx hb dL_law_489 rfl (lv_at hl 2 rfl) ?_
  refine lv_aload_n hx hb dL_law_490 rfl (lv_at hl 0 rfl) ?_
  refine lv_iload hx hb dL_law_491 (lv_at hl 4 rfl) ?_
  refine lv_iconst (v := nI 1) hx hb dL_law_493 (by decide) ?_
  refine tn_iadd (a := (5 * q)) (b := 1) hx hb dL_law_494 ?_
  refine tn_sld (i := ((5 * q) + 1)) hx hb hX hbl hbA hS (by omega) (by omega) dL_law_495 ?_
  have hDc := tn_D_swap hD
  rw [List.append_assoc] at hDc
  have hF := tn_freeA (tn_D_l hDc) hS hA
  refine va_calll (va_runV (As := [.int (xs ((5 * q) + 1))]) (rest := [.long r_486]) ⟨hx, hb, hml, hown, hts⟩ (cX1_slack_ok l dC dI k0 b1 b2 b3 b4 b5 b6 cI cL cZ th cnt fp sp mo on rs rw rl le bl bs H.size g ok (xs (5 * q + 1))) (cwV 1 hts gL_law_X1_slack rfl rfl rfl (by decide +kernel) ⟨Nat.le_of_ble_eq_true rfl, Nat.le_of_ble_eq_true rfl⟩) (tn_preV hK hPm (tn_D_l hDc) (ci := 1) rfl 0 rfl) rfl rfl hl.1 rfl (lv_room (Nat.le_of_ble_eq_true rfl)) dL_law_496 ⟨by show 16 + q + 0 ≤ 1042; omega, by show 1489 + 6 * q + 0 ≤ 9693; omega⟩) hS (fun q _ h => hF q h) hF (fun r_496 u_496 t H1 locs ht hvm hw_496 hB hz1 hk1 hS => ?_)
  obtain ⟨hPm, -, hD1⟩ := hB
  rw [ht] at hPm
  obtain ⟨hR, hD9⟩ := tn_side (va_P.app hPo hPx) hDc hk1 hF hD1
  have hPo := tn_P_l hR
  have hPx := tn_P_r hR
  rw [← List.append_assoc] at hD9
  have hD := tn_D_swap hD9
  refine W.cs (cells' := 16 + q) (slots' := 1489 + 6 * q) (Nat.add_zero _) (Nat.add_zero _) ?_
  clear hDc hF hz1 hk1 hD1 ht hvm
  clear hR
  generalize H1 = H at hPx hPm hPo hS ⊢
  refine tn_lc_eq (x := r_486) (y := r_496) (tgt := 518) hx hb dL_law_499 dL_law_500 (by decide) (fun c_499 => ?_) (fun c_499 => ?_)
  · skip
    refine W.widen (k := 16 + (q + 1)) (n := 1489 + 6 * (q + 1)) (by omega) (by omega) ?_
    exact K _ _ _ _ _ _ _ _ _ _ _ _ _ _ _ _ _ _ _ _ _ _ _ _ _ _ _ hinv hPx hPm hPo hD hS (lv_sub hl [0, 1, 2, 3, 4] rfl)
  · skip
    exact absurd (tl_slack g.1 hw_486 hw_496) c_499
set_option maxHeartbeats 4000000 in
set_option maxRecDepth 100000 in
theorem law_c11 {p : Program} {l : Launch} {e : Env} {s : State} {m : MethodId} {below : List Frame} {meth : Method} {c : Code} {b L : Nat} {xs : Nat → Int32} {dC : Nat → ClassId} {dI : Nat → Nat → Nat} {h a1 a2 a3 a4 a5 a6 a7 k0 b1 b2 b3 b4 b5 b6 ao : Nat} {cI cL cZ : ClassId} (C : tl_C p l s m meth c b L xs dC dI cI cL cZ) {q : Nat} (hq : 5 * q + 5 ≤ L) (K : tl_K p l e s m below meth c b dC dI h a1 a2 a3 a4 a5 a6 a7 k0 b1 b2 b3 b4 b5 b6 ao cI cL cZ q 518 (16 + (q + 1)) (1489 + 6 * (q + 1))) : tl_K p l e s m below meth c b dC dI h a1 a2 a3 a4 a5 a6 a7 k0 b1 b2 b3 b4 b5 b6 ao cI cL cZ q 505 (16 + q) (1489 + 6 * q) := by
  obtain ⟨C0, hK, hfc, hZs, hst, hL⟩ := C
  obtain ⟨hx, hb, hr, hml, hown, hts0, hX, hbl, hlocks, hgv⟩ := C0
  have hts := fun w h => hts0 w (wsL_law_in w h)
  have hown : s.vm.findClass RL = some m.cls := hown
  have hA : ∀ q : Nat, s.heap.size ≤ q → (fun q : Nat => s.heap.size ≤ q) q := fun _ h => h
  have hbA : ¬ (fun q : Nat => s.heap.size ≤ q) b := Nat.not_le.mpr hbl
  intro cnt onc fp sp mo on lf sf rp rs rl th cnt2 fp2 sp2 mo2 on2 rs2 rw rl2 le bl bs ov H locs ls hinv hPx hPm hPo hD hS hl
  obtain ⟨⟨e1, e2, e3, e4, e5, e6, e7⟩, -⟩ := id hinv
  have e1 := e1.symm
  subst e1
  have e2 := e2.symm
  subst e2
  have e3 := e3.symm
  subst e3
  have e4 := e4.symm
  subst e4
  have e5 := e5.symm
  subst e5
  have e6 := e6.symm
  subst e6
  have e7 := e7.symm
  subst e7
  obtain ⟨-, g, ok, hoc, hrs, hrow, hrl⟩ := id hinv
  refine lv_aload_n hx hb dL_law_505 rfl (lv_at hl 1 rfl) ?_
  have hDc := hD
  have hF := tn_freeA (tn_D_l hDc) hS hA
  refine va_calli (va_runV (As := []) (rest := []) ⟨hx, hb, hml, hown, hts⟩ (cX0_alive_ok l dC dI h a1 a2 a3 a4 a5 a6 a7 cI cL cZ cnt onc fp sp mo on lf sf rp rs rl H.size ) (cwV 0 hts gL_law_X0_alive rfl rfl rfl (by decide +kernel) ⟨Nat.le_of_ble_eq_true rfl, Nat.le_of_ble_eq_true rfl⟩) (tn_preV hK hPx (tn_D_l hDc) (ci := 0) rfl 0 rfl) rfl rfl hl.1 rfl (lv_room (Nat.le_of_ble_eq_true rfl)) dL_law_506 ⟨by show 16 + q + 0 ≤ 1042; omega, by show 1489 + 6 * q + 0 ≤ 9693; omega⟩) hS (fun q _ h => hF q h) hF (fun r_506 u_506 t H1 locs ht hvm hw_506 hB hz1 hk1 hS => ?_)
  obtain ⟨hPx, -, hD1⟩ := hB
  rw [ht] at hPx
  obtain ⟨hR, hD⟩ := tn_side (va_P.app hPm hPo) hDc hk1 hF hD1
  have hPm := tn_P_l hR
  have hPo := tn_P_r hR
  refine W.cs (cells' := 16 + q) (slots' := 1489 + 6 * q) (Nat.add_zero _) (Nat.add_zero _) ?_
  clear hDc hF hz1 hk1 hD1 ht hvm
  clear hR
  generalize H1 = H at hPx hPm hPo hS ⊢
  refine lv_aload_n hx hb dL_law_509 rfl (lv_at hl 2 rfl) ?_
  have hDc := tn_D_swap hD
  rw [List.append_assoc] at hDc
  have hF := tn_freeA (tn_D_l hDc) hS hA
  refine va_calli (va_runV (As := []) (rest := [.int r_506]) ⟨hx, hb, hml, hown, hts⟩ (cX1_alive_ok l dC dI k0 b1 b2 b3 b4 b5 b6 cI cL cZ th cnt fp sp mo on rs rw rl le bl bs H.size g.1) (cwV 0 hts gL_law_X1_alive rfl rfl rfl (by decide +kernel) ⟨Nat.le_of_ble_eq_true rfl, Nat.le_of_ble_eq_true rfl⟩) (tn_preV hK hPm (tn_D_l hDc) (ci := 1) rfl 0 rfl) rfl rfl hl.1 rfl (lv_room (Nat.le_of_ble_eq_true rfl)) dL_law_510 ⟨by show 16 + q + 0 ≤ 1042; omega, by show 1489 + 6 * q + 0 ≤ 9693; omega⟩) hS (fun q _ h => hF q h) hF (fun r_510 u_510 t H1 locs ht hvm hw_510 hB hz1 hk1 hS => ?_)
  obtain ⟨hPm, -, hD1⟩ := hB
  rw [ht] at hPm
  obtain ⟨hR, hD9⟩ := tn_side (va_P.app hPo hPx) hDc hk1 hF hD1
  have hPo := tn_P_l hR
  have hPx := tn_P_r hR
  rw [← List.append_assoc] at hD9
  have hD := tn_D_swap hD9
  refine W.cs (cells' := 16 + q) (slots' := 1489 + 6 * q) (Nat.add_zero _) (Nat.add_zero _) ?_
  clear hDc hF hz1 hk1 hD1 ht hvm
  clear hR
  generalize H1 = H at hPx hPm hPo hS ⊢
  refine lv_icmp_eq (tgt := 518) hx hb dL_law_513 (by decide) (fun c_513 => ?_) (fun c_513 => ?_)
  · skip
    refine W.widen (k := 16 + (q + 1)) (n := 1489 + 6 * (q + 1)) (by omega) (by omega) ?_
    exact K _ _ _ _ _ _ _ _ _ _ _ _ _ _ _ _ _ _ _ _ _ _ _ _ _ _ _ hinv hPx hPm hPo hD hS (lv_sub hl [0, 1, 2, 3, 4] rfl)
  · skip
    exact absurd (Eq.trans hw_506 ((congrArg nI hoc).trans (Eq.symm hw_510))) c_513
set_option maxHeartbeats 4000000 in
set_option maxRecDepth 100000 in
theorem law_c3 {p : Program} {l : Launch} {e : Env} {s : State} {m : MethodId} {below : List Frame} {meth : Method} {c : Code} {b L : Nat} {xs : Nat → Int32} {dC : Nat → ClassId} {dI : Nat → Nat → Nat} {h a1 a2 a3 a4 a5 a6 a7 k0 b1 b2 b3 b4 b5 b6 ao : Nat} {cI cL cZ : ClassId} (C : tl_C p l s m meth c b L xs dC dI cI cL cZ) {q : Nat} (hq : 5 * q + 5 ≤ L) (K : tl_K p l e s m below meth c b dC dI h a1 a2 a3 a4 a5 a6 a7 k0 b1 b2 b3 b4 b5 b6 ao cI cL cZ q 518 (16 + (q + 1)) (1489 + 6 * (q + 1))) : tl_K p l e s m below meth c b dC dI h a1 a2 a3 a4 a5 a6 a7 k0 b1 b2 b3 b4 b5 b6 ao cI cL cZ q 231 (16 + q) (1489 + 6 * q) := by
  obtain ⟨C0, hK, hfc, hZs, hst, hL⟩ := C
  obtain ⟨hx, hb, hr, hml, hown, hts0, hX, hbl, hlocks, hgv⟩ := C0
  have hts := fun w h => hts0 w (wsL_law_in w h)
  have hown : s.vm.findClass RL = some m.cls := hown
  have hA : ∀ q : Nat, s.heap.size ≤ q → (fun q : Nat => s.heap.size ≤ q) q := fun _ h => h
  have hbA : ¬ (fun q : Nat => s.heap.size ≤ q) b := Nat.not_le.mpr hbl
  intro cnt onc fp sp mo on lf sf rp rs rl th cnt2 fp2 sp2 mo2 on2 rs2 rw rl2 le bl bs ov H locs ls hinv hPx hPm hPo hD hS hl
  obtain ⟨⟨e1, e2, e3, e4, e5, e6, e7⟩, -⟩ := id hinv
  have e1 := e1.symm
  subst e1
  have e2 := e2.symm
  subst e2
  have e3 := e3.symm
  subst e3
  have e4 := e4.symm
  subst e4
  have e5 := e5.symm
  subst e5
  have e6 := e6.symm
  subst e6
  have e7 := e7.symm
  subst e7
  obtain ⟨-, g, ok, hoc, hrs, hrow, hrl⟩ := id hinv
  refine lv_aload_n hx hb dL_law_231 rfl (lv_at hl 1 rfl) ?_
  refine lv_aload_n hx hb dL_law_232 rfl (lv_at hl 0 rfl) ?_
  refine lv_iload hx hb dL_law_233 (lv_at hl 4 rfl) ?_
  refine lv_iconst (v := nI 1) hx hb dL_law_235 (by decide) ?_
  refine tn_iadd (a := (5 * q)) (b := 1) hx hb dL_law_236 ?_
  refine tn_sld (i := ((5 * q) + 1)) hx hb hX hbl hbA hS (by omega) (by omega) dL_law_237 ?_
  refine lv_aload_n hx hb dL_law_238 rfl (lv_at hl 0 rfl) ?_
  refine lv_iload hx hb dL_law_239 (lv_at hl 4 rfl) ?_
  refine lv_iconst (v := nI 2) hx hb dL_law_241 (by decide) ?_
  refine tn_iadd (a := (5 * q)) (b := 2) hx hb dL_law_242 ?_
  refine tn_sld (i := ((5 * q) + 2)) hx hb hX hbl hbA hS (by omega) (by omega) dL_law_243 ?_
  refine lv_aload_n hx hb dL_law_244 rfl (lv_at hl 3 rfl) ?_
  have hDc := tl_rot hD
  have hF := tn_freeA (tn_D_l hDc) hS hA
  refine va_calli (vx_runSW (As := [.ref h, .int (xs ((5 * q) + 1)), .int (xs ((5 * q) + 2)), .ref ao]) (rest := []) ⟨hx, hb, hml, hown, hts⟩ (cL_bound_ok l dC dI h a1 a2 a3 a4 a5 a6 a7 cI cL cZ cnt onc fp sp mo on lf sf rp rs rl ao ov H.size hst g ok (xs (5 * q + 1)) (xs (5 * q + 2))) (vx_cwSW 4 hts gL_law_L_bound rfl rfl rfl (by decide +kernel) ⟨Nat.le_of_ble_eq_true rfl, Nat.le_of_ble_eq_true rfl⟩) (tn_preXS hK (va_P.app hPx hPo) (tn_D_self (tn_D_l hDc)) hfc hZs hS hF) rfl rfl hl.1 rfl (lv_room (Nat.le_of_ble_eq_true rfl)) dL_law_245 ⟨by show 16 + q + 1 ≤ 1042; omega, by show 1489 + 6 * q + 6 ≤ 9693; omega⟩) hS (fun q _ h => hF q h) hF (fun r_245 u_245 t H1 locs ht hvm hw_245 hB hz1 hk1 hS => ?_)
  obtain ⟨hPl, -, hD1⟩ := hB
  rw [ht] at hPl
  have hPx := tn_P_l hPl
  have hPo := tn_P_r hPl
  obtain ⟨hPm, hD9⟩ := tn_side hPm hDc hk1 hF hD1
  have hD := tl_rot' hD9
  refine W.cs (cells' := 16 + (q + 1)) (slots' := 1489 + 6 * (q + 1)) (by omega) (by omega) ?_
  clear hDc hF hz1 hk1 hD1 ht hvm
  generalize H1 = H at hPx hPm hPo hS ⊢
  refine lv_istore (lv' := [(5, .int r_245), (0, .ref b), (1, .ref h), (2, .ref k0), (3, .ref ao), (4, .int (nI (5 * q)))]) hx hb dL_law_248 hl (by decide) rfl (fun ls hl => ?_)
  refine lv_aload_n hx hb dL_law_250 rfl (lv_at hl 3 rfl) ?_
  refine lv_aload_n hx hb dL_law_251 rfl (lv_at hl 1 rfl) ?_
  refine lv_iload hx hb dL_law_252 (lv_at hl 5 rfl) ?_
  refine lv_iconst (v := nI 1) hx hb dL_law_254 (by decide) ?_
  refine tn_iadd (a := (5 * q)) (b := 1) hx hb dL_law_255 ?_
  refine tn_sld (i := ((5 * q) + 1)) hx hb hX hbl hbA hS (by omega) (by omega) dL_law_256 ?_
  refine lv_aload_n hx hb dL_law_257 rfl (lv_at hl 1 rfl) ?_
  refine lv_iload hx hb dL_law_258 (lv_at hl 5 rfl) ?_
  refine lv_iconst (v := nI 2) hx hb dL_law_260 (by decide) ?_
  refine tn_iadd (a := (5 * q)) (b := 2) hx hb dL_law_261 ?_
  refine tn_sld (i := ((5 * q) + 2)) hx hb hX hbl hbA hS (by omega) (by omega) dL_law_262 ?_
  have hDc := tn_D_swap hD
  rw [List.append_assoc] at hDc
  have hF := tn_freeA (tn_D_l hDc) hS hA
  refine va_calll (va_runV (As := [.int (xs ((5 * q) + 1)), .int (xs ((5 * q) + 2))]) (rest := []) ⟨hx, hb, hml, hown, hts⟩ (cX1_bound_ok l dC dI k0 b1 b2 b3 b4 b5 b6 cI cL cZ th cnt fp sp mo on rs rw rl le bl bs H.size g ok (xs (5 * q + 1)) (xs (5 * q + 2))) (cwV 2 hts gL_law_X1_bound rfl rfl rfl (by decide +kernel) ⟨Nat.le_of_ble_eq_true rfl, Nat.le_of_ble_eq_true rfl⟩) (tn_preV hK hPm (tn_D_l hDc) (ci := 1) rfl 0 rfl) rfl rfl hl.1 rfl (lv_room (Nat.le_of_ble_eq_true rfl)) dL_law_263 ⟨by show 16 + (q + 1) + 0 ≤ 1042; omega, by show 1489 + 6 * (q + 1) + 0 ≤ 9693; omega⟩) hS (fun q _ h => hF q h) hF (fun r_263 u_263 t H1 locs ht hvm hw_263 hB hz1 hk1 hS => ?_)
  obtain ⟨hPm, -, hD1⟩ := hB
  rw [ht] at hPm
  obtain ⟨hR, hD9⟩ := tn_side (va_P.app hPo hPx) hDc hk1 hF hD1
  have hPo := tn_P_l hR
  have hPx := tn_P_r hR
  rw [← List.append_assoc] at hD9
  have hD := tn_D_swap hD9
  refine W.cs (cells' := 16 + (q + 1)) (slots' := 1489 + 6 * (q + 1)) (Nat.add_zero _) (Nat.add_zero _) ?_
  clear hDc hF hz1 hk1 hD1 ht hvm
  clear hR
  generalize H1 = H at hPx hPm hPo hS ⊢
  refine lv_lstore (lv' := [(6, .long r_263), (5, .int r_245), (0, .ref b), (1, .ref h), (2, .ref k0), (3, .ref ao), (4, .int (nI (5 * q)))]) hx hb dL_law_266 hl (by decide) rfl (fun ls hl => ?_)
  refine lv_aload_n hx hb dL_law_268 rfl (lv_at hl 4 rfl) ?_
  have hDc := tn_D_swap hD
  rw [List.append_assoc] at hDc
  have hF := tn_freeA (tn_D_l hDc) hS hA
  refine va_calli (va_runV (As := []) (rest := []) ⟨hx, hb, hml, hown, hts⟩ (cX1_thrown_ok l dC dI k0 b1 b2 b3 b4 b5 b6 cI cL cZ u_263.1 cnt fp sp mo on rs rw rl u_263.2.1 u_263.2.2.1 u_263.2.2.2 H.size ) (cwV 0 hts gL_law_X1_thrown rfl rfl rfl (by decide +kernel) ⟨Nat.le_of_ble_eq_true rfl, Nat.le_of_ble_eq_true rfl⟩) (tn_preV hK hPm (tn_D_l hDc) (ci := 1) rfl 0 rfl) rfl rfl hl.1 rfl (lv_room (Nat.le_of_ble_eq_true rfl)) dL_law_269 ⟨by show 16 + (q + 1) + 0 ≤ 1042; omega, by show 1489 + 6 * (q + 1) + 0 ≤ 9693; omega⟩) hS (fun q _ h => hF q h) hF (fun r_269 u_269 t H1 locs ht hvm hw_269 hB hz1 hk1 hS => ?_)
  obtain ⟨hPm, -, hD1⟩ := hB
  rw [ht] at hPm
  obtain ⟨hR, hD9⟩ := tn_side (va_P.app hPo hPx) hDc hk1 hF hD1
  have hPo := tn_P_l hR
  have hPx := tn_P_r hR
  rw [← List.append_assoc] at hD9
  have hD := tn_D_swap hD9
  refine W.cs (cells' := 16 + (q + 1)) (slots' := 1489 + 6 * (q + 1)) (Nat.add_zero _) (Nat.add_zero _) ?_
  clear hDc hF hz1 hk1 hD1 ht hvm
  clear hR
  generalize H1 = H at hPx hPm hPo hS ⊢
  refine lv_iload hx hb dL_law_272 (lv_at hl 1 rfl) ?_
  refine lv_icmp_eq (tgt := 279) hx hb dL_law_274 (by decide) (fun c_274 => ?_) (fun c_274 => ?_)
  · skip
    refine lv_iload hx hb dL_law_279 (lv_at hl 1 rfl) ?_
    refine lv_if_ne (tgt := 295) hx hb dL_law_281 (by decide) (fun c_281 => ?_) (fun c_281 => ?_)
    · skip
      refine lv_goto (tgt := 518) hx hb dL_law_295 (by decide) ?_
      refine W.widen (k := 16 + (q + 1)) (n := 1489 + 6 * (q + 1)) (by omega) (by omega) ?_
      exact K _ _ _ _ _ _ _ _ _ _ _ _ _ _ _ _ _ _ _ _ _ _ _ _ _ _ _ hinv hPx hPm hPo hD hS (lv_sub hl [2, 3, 4, 5, 6] rfl)
    · skip
      refine lv_aload_n hx hb dL_law_284 rfl (lv_at hl 5 rfl) ?_
      refine lv_iconst (v := nI 0) hx hb dL_law_285 (by decide) ?_
      refine tn_lald (i := 0) (v := u_245.2 0) hx hb hK hPo 0 1 rfl rfl (by omega) (by decide) rfl dL_law_286 ?_
      refine lv_lload hx hb dL_law_287 (lv_at hl 0 rfl) ?_
      refine tn_lc_eq (x := (u_245.2 0)) (y := r_263) (tgt := 295) hx hb dL_law_289 dL_law_290 (by decide) (fun c_289 => ?_) (fun c_289 => ?_)
      · skip
        refine lv_goto (tgt := 518) hx hb dL_law_295 (by decide) ?_
        refine W.widen (k := 16 + (q + 1)) (n := 1489 + 6 * (q + 1)) (by omega) (by omega) ?_
        exact K _ _ _ _ _ _ _ _ _ _ _ _ _ _ _ _ _ _ _ _ _ _ _ _ _ _ _ hinv hPx hPm hPo hD hS (lv_sub hl [2, 3, 4, 5, 6] rfl)
      · skip
        exact absurd ((tl_bound hw_245 hw_263).2 c_281) c_289
  · skip
    exact absurd (Eq.trans hw_269 (tl_bound hw_245 hw_263).1) c_274
set_option maxHeartbeats 4000000 in
set_option maxRecDepth 100000 in
theorem law_c9 {p : Program} {l : Launch} {e : Env} {s : State} {m : MethodId} {below : List Frame} {meth : Method} {c : Code} {b L : Nat} {xs : Nat → Int32} {dC : Nat → ClassId} {dI : Nat → Nat → Nat} {h a1 a2 a3 a4 a5 a6 a7 k0 b1 b2 b3 b4 b5 b6 ao : Nat} {cI cL cZ : ClassId} (C : tl_C p l s m meth c b L xs dC dI cI cL cZ) {q : Nat} (hq : 5 * q + 5 ≤ L) (K : tl_K p l e s m below meth c b dC dI h a1 a2 a3 a4 a5 a6 a7 k0 b1 b2 b3 b4 b5 b6 ao cI cL cZ q 518 (16 + (q + 1)) (1489 + 6 * (q + 1))) : tl_K p l e s m below meth c b dC dI h a1 a2 a3 a4 a5 a6 a7 k0 b1 b2 b3 b4 b5 b6 ao cI cL cZ q 424 (16 + q) (1489 + 6 * q) := by
  obtain ⟨C0, hK, hfc, hZs, hst, hL⟩ := C
  obtain ⟨hx, hb, hr, hml, hown, hts0, hX, hbl, hlocks, hgv⟩ := C0
  have hts := fun w h => hts0 w (wsL_law_in w h)
  have hown : s.vm.findClass RL = some m.cls := hown
  have hA : ∀ q : Nat, s.heap.size ≤ q → (fun q : Nat => s.heap.size ≤ q) q := fun _ h => h
  have hbA : ¬ (fun q : Nat => s.heap.size ≤ q) b := Nat.not_le.mpr hbl
  intro cnt onc fp sp mo on lf sf rp rs rl th cnt2 fp2 sp2 mo2 on2 rs2 rw rl2 le bl bs ov H locs ls hinv hPx hPm hPo hD hS hl
  obtain ⟨⟨e1, e2, e3, e4, e5, e6, e7⟩, -⟩ := id hinv
  have e1 := e1.symm
  subst e1
  have e2 := e2.symm
  subst e2
  have e3 := e3.symm
  subst e3
  have e4 := e4.symm
  subst e4
  have e5 := e5.symm
  subst e5
  have e6 := e6.symm
  subst e6
  have e7 := e7.symm
  subst e7
  obtain ⟨-, g, ok, hoc, hrs, hrow, hrl⟩ := id hinv
  refine lv_aload_n hx hb dL_law_424 rfl (lv_at hl 1 rfl) ?_
  refine lv_aload_n hx hb dL_law_425 rfl (lv_at hl 0 rfl) ?_
  refine lv_iload hx hb dL_law_426 (lv_at hl 4 rfl) ?_
  refine lv_iconst (v := nI 1) hx hb dL_law_428 (by decide) ?_
  refine tn_iadd (a := (5 * q)) (b := 1) hx hb dL_law_429 ?_
  refine tn_sld (i := ((5 * q) + 1)) hx hb hX hbl hbA hS (by omega) (by omega) dL_law_430 ?_
  refine lv_aload_n hx hb dL_law_431 rfl (lv_at hl 3 rfl) ?_
  have hDc := tl_rot hD
  have hF := tn_freeA (tn_D_l hDc) hS hA
  refine va_calli (vx_runSW (As := [.ref h, .int (xs ((5 * q) + 1)), .ref ao]) (rest := []) ⟨hx, hb, hml, hown, hts⟩ (cL_earliest_ok l dC dI h a1 a2 a3 a4 a5 a6 a7 cI cL cZ cnt onc fp sp mo on lf sf rp rs rl ao ov H.size hst g ok (xs (5 * q + 1))) (vx_cwSW 3 hts gL_law_L_earliest rfl rfl rfl (by decide +kernel) ⟨Nat.le_of_ble_eq_true rfl, Nat.le_of_ble_eq_true rfl⟩) (tn_preXS hK (va_P.app hPx hPo) (tn_D_self (tn_D_l hDc)) hfc hZs hS hF) rfl rfl hl.1 rfl (lv_room (Nat.le_of_ble_eq_true rfl)) dL_law_432 ⟨by show 16 + q + 1 ≤ 1042; omega, by show 1489 + 6 * q + 6 ≤ 9693; omega⟩) hS (fun q _ h => hF q h) hF (fun r_432 u_432 t H1 locs ht hvm hw_432 hB hz1 hk1 hS => ?_)
  obtain ⟨hPl, -, hD1⟩ := hB
  rw [ht] at hPl
  have hPx := tn_P_l hPl
  have hPo := tn_P_r hPl
  obtain ⟨hPm, hD9⟩ := tn_side hPm hDc hk1 hF hD1
  have hD := tl_rot' hD9
  refine W.cs (cells' := 16 + (q + 1)) (slots' := 1489 + 6 * (q + 1)) (by omega) (by omega) ?_
  clear hDc hF hz1 hk1 hD1 ht hvm
  generalize H1 = H at hPx hPm hPo hS ⊢
  refine lv_istore (lv' := [(5, .int r_432), (0, .ref b), (1, .ref h), (2, .ref k0), (3, .ref ao), (4, .int (nI (5 * q)))]) hx hb dL_law_435 hl (by decide) rfl (fun ls hl => ?_)
  refine lv_aload_n hx hb dL_law_437 rfl (lv_at hl 3 rfl) ?_
  refine lv_aload_n hx hb dL_law_438 rfl (lv_at hl 1 rfl) ?_
  refine lv_iload hx hb dL_law_439 (lv_at hl 5 rfl) ?_
  refine lv_iconst (v := nI 1) hx hb dL_law_441 (by decide) ?_
  refine tn_iadd (a := (5 * q)) (b := 1) hx hb dL_law_442 ?_
  refine tn_sld (i := ((5 * q) + 1)) hx hb hX hbl hbA hS (by omega) (by omega) dL_law_443 ?_
  have hDc := tn_D_swap hD
  rw [List.append_assoc] at hDc
  have hF := tn_freeA (tn_D_l hDc) hS hA
  refine va_calll (va_runV (As := [.int (xs ((5 * q) + 1))]) (rest := []) ⟨hx, hb, hml, hown, hts⟩ (cX1_earliest_ok l dC dI k0 b1 b2 b3 b4 b5 b6 cI cL cZ th cnt fp sp mo on rs rw rl le bl bs H.size g ok (xs (5 * q + 1))) (cwV 1 hts gL_law_X1_earliest rfl rfl rfl (by decide +kernel) ⟨Nat.le_of_ble_eq_true rfl, Nat.le_of_ble_eq_true rfl⟩) (tn_preV hK hPm (tn_D_l hDc) (ci := 1) rfl 0 rfl) rfl rfl hl.1 rfl (lv_room (Nat.le_of_ble_eq_true rfl)) dL_law_444 ⟨by show 16 + (q + 1) + 0 ≤ 1042; omega, by show 1489 + 6 * (q + 1) + 0 ≤ 9693; omega⟩) hS (fun q _ h => hF q h) hF (fun r_444 u_444 t H1 locs ht hvm hw_444 hB hz1 hk1 hS => ?_)
  obtain ⟨hPm, -, hD1⟩ := hB
  rw [ht] at hPm
  obtain ⟨hR, hD9⟩ := tn_side (va_P.app hPo hPx) hDc hk1 hF hD1
  have hPo := tn_P_l hR
  have hPx := tn_P_r hR
  rw [← List.append_assoc] at hD9
  have hD := tn_D_swap hD9
  refine W.cs (cells' := 16 + (q + 1)) (slots' := 1489 + 6 * (q + 1)) (Nat.add_zero _) (Nat.add_zero _) ?_
  clear hDc hF hz1 hk1 hD1 ht hvm
  clear hR
  generalize H1 = H at hPx hPm hPo hS ⊢
  refine lv_lstore (lv' := [(6, .long r_444), (5, .int r_432), (0, .ref b), (1, .ref h), (2, .ref k0), (3, .ref ao), (4, .int (nI (5 * q)))]) hx hb dL_law_447 hl (by decide) rfl (fun ls hl => ?_)
  refine lv_aload_n hx hb dL_law_449 rfl (lv_at hl 4 rfl) ?_
  have hDc := tn_D_swap hD
  rw [List.append_assoc] at hDc
  have hF := tn_freeA (tn_D_l hDc) hS hA
  refine va_calli (va_runV (As := []) (rest := []) ⟨hx, hb, hml, hown, hts⟩ (cX1_thrown_ok l dC dI k0 b1 b2 b3 b4 b5 b6 cI cL cZ u_444.1 cnt fp sp mo on rs rw rl u_444.2.1 u_444.2.2.1 u_444.2.2.2 H.size ) (cwV 0 hts gL_law_X1_thrown rfl rfl rfl (by decide +kernel) ⟨Nat.le_of_ble_eq_true rfl, Nat.le_of_ble_eq_true rfl⟩) (tn_preV hK hPm (tn_D_l hDc) (ci := 1) rfl 0 rfl) rfl rfl hl.1 rfl (lv_room (Nat.le_of_ble_eq_true rfl)) dL_law_450 ⟨by show 16 + (q + 1) + 0 ≤ 1042; omega, by show 1489 + 6 * (q + 1) + 0 ≤ 9693; omega⟩) hS (fun q _ h => hF q h) hF (fun r_450 u_450 t H1 locs ht hvm hw_450 hB hz1 hk1 hS => ?_)
  obtain ⟨hPm, -, hD1⟩ := hB
  rw [ht] at hPm
  obtain ⟨hR, hD9⟩ := tn_side (va_P.app hPo hPx) hDc hk1 hF hD1
  have hPo := tn_P_l hR
  have hPx := tn_P_r hR
  rw [← List.append_assoc] at hD9
  have hD := tn_D_swap hD9
  refine W.cs (cells' := 16 + (q + 1)) (slots' := 1489 + 6 * (q + 1)) (Nat.add_zero _) (Nat.add_zero _) ?_
  clear hDc hF hz1 hk1 hD1 ht hvm
  clear hR
  generalize H1 = H at hPx hPm hPo hS ⊢
  refine lv_iload hx hb dL_law_453 (lv_at hl 1 rfl) ?_
  refine lv_icmp_eq (tgt := 460) hx hb dL_law_455 (by decide) (fun c_455 => ?_) (fun c_455 => ?_)
  · skip
    refine lv_iload hx hb dL_law_460 (lv_at hl 1 rfl) ?_
    refine lv_if_ne (tgt := 476) hx hb dL_law_462 (by decide) (fun c_462 => ?_) (fun c_462 => ?_)
    · skip
      refine lv_goto (tgt := 518) hx hb dL_law_476 (by decide) ?_
      refine W.widen (k := 16 + (q + 1)) (n := 1489 + 6 * (q + 1)) (by omega) (by omega) ?_
      exact K _ _ _ _ _ _ _ _ _ _ _ _ _ _ _ _ _ _ _ _ _ _ _ _ _ _ _ hinv hPx hPm hPo hD hS (lv_sub hl [2, 3, 4, 5, 6] rfl)
    · skip
      refine lv_aload_n hx hb dL_law_465 rfl (lv_at hl 5 rfl) ?_
      refine lv_iconst (v := nI 0) hx hb dL_law_466 (by decide) ?_
      refine tn_lald (i := 0) (v := u_432.2 0) hx hb hK hPo 0 1 rfl rfl (by omega) (by decide) rfl dL_law_467 ?_
      refine lv_lload hx hb dL_law_468 (lv_at hl 0 rfl) ?_
      refine tn_lc_eq (x := (u_432.2 0)) (y := r_444) (tgt := 476) hx hb dL_law_470 dL_law_471 (by decide) (fun c_470 => ?_) (fun c_470 => ?_)
      · skip
        refine lv_goto (tgt := 518) hx hb dL_law_476 (by decide) ?_
        refine W.widen (k := 16 + (q + 1)) (n := 1489 + 6 * (q + 1)) (by omega) (by omega) ?_
        exact K _ _ _ _ _ _ _ _ _ _ _ _ _ _ _ _ _ _ _ _ _ _ _ _ _ _ _ hinv hPx hPm hPo hD hS (lv_sub hl [2, 3, 4, 5, 6] rfl)
      · skip
        exact absurd ((tl_earl hw_432 hw_444).2 c_462) c_470
  · skip
    exact absurd (Eq.trans hw_450 (tl_earl hw_432 hw_444).1) c_455
