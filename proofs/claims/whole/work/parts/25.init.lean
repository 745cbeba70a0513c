theorem tn_c0i (cA : ClassId) (n : Nat) : vp_cell cA (n, .inl (fun _ => nI 0)) = arrV cA n (fun _ => defaultValue .int) := vp_cell_i cA n _
theorem tn_c0i0 (cA : ClassId) (n : Nat) : vp_cell cA (n, .inl (fun _ => 0)) = arrV cA n (fun _ => defaultValue .int) := vp_cell_i cA n _
theorem tn_c0b (cA : ClassId) (n : Nat) : vp_cell cA (n, .inl (fun _ => tn_b false)) = arrV cA n (fun _ => defaultValue .boolean) := vp_cell_i cA n _
theorem tn_c0l (cA : ClassId) (n : Nat) : vp_cell cA (n, .inr (.inl (fun _ => 0))) = arrV cA n (fun _ => defaultValue .long) := vp_cell_l cA n _
set_option maxHeartbeats 4000000 in
set_option maxRecDepth 100000 in
/-- X0(): an empty net -/
theorem cX0_init_ok (l : Launch) (dC : Nat → ClassId) (dI : Nat → Nat → Nat) (h sz : Nat) : Met l yX0_init wsX0_init ({ frames := 1, cells := 7, slots := 541, locals := 12 }) (va_Pc [.ref h] (tn_Pre dC dI [] [(h, .inr (0, [.null, .null, .null, .null, .int 0, .int 0, .null, .null, .null, .int 0, .long 0]))] sz)) (va_Qv (S := Unit) (fun _ => True) (fun _ t => ∃ (a1 a2 a3 a4 a5 a6 a7 : Nat) (cI cL cZ : ClassId), tn_at dC dI (tn_tys cI cL cZ) (va_A [(h, .inr (0, [.null, .null, .null, .null, .int 0, .int 0, .null, .null, .null, .int 0, .long 0]))] sz) (tn_ws h a1 a2 a3 a4 a5 a6 a7 cI cL cZ 0 0 (fun _ => 0) (fun _ => 0) (fun _ => 0) (fun _ => false) (fun _ => 0) (fun _ => 0) (fun _ => 0) 0 0) t) (va_A [(h, .inr (0, [.null, .null, .null, .null, .int 0, .int 0, .null, .null, .null, .int 0, .long 0]))] sz)) 7 541 (va_A [(h, .inr (0, [.null, .null, .null, .null, .int 0, .int 0, .null, .null, .null, .int 0, .long 0]))] sz) := by
  refine Met.ofW (cc := cX0_init) (maxL := 1) (ret := none) (by decide) rfl ?_
  intro p e s m args below meth c s₁ B hml hv
  obtain ⟨rfl, hsz, hP, hK, hD0⟩ := hv
  have hx := B.exec
  have hb := B.bytes
  have hr := B.returns
  have hts := atoms_spec (ws := wsX0_init) B.pre
  have hown : s.vm.findClass RX0 = some m.cls := findClass_of_methodNamed B.named
  have hlocks := B.notSynchronized
  have hin2 : meth.name = "<init>" := (name_of_methodNamed B.named B.method).1
  subst hsz
  have hD := hD0.self (sz := s.heap.size)
  generalize hAe : va_A [(h, .inr (0, [.null, .null, .null, .null, .int 0, .int 0, .null, .null, .null, .int 0, .long 0]))] s.heap.size = A at hD ⊢
  have hA : ∀ q : Nat, s.heap.size ≤ q → A q := fun q h => by rw [← hAe]; exact Or.inr h
  have hS : va_S A s.heap s.heap [] := va_S.rf
  have hl := lv_entry ([.ref h]) (n := 1) (Nat.le_of_ble_eq_true rfl)
  rw [lg_entry_eq]
  generalize (lg_sl ([.ref h]) ++ List.replicate (1 - (lg_sl ([.ref h])).length) Slot.unset).toArray = ls at hl ⊢
  have hl : lv_has ls 1 [(0, .ref h)] := hl
  have hin : ∀ w ∈ u_ws RX0 TX0 11, w ∈ wsX0_init := by decide +kernel
  refine lv_aload_n hx hb dX0_init_0 rfl (lv_at hl 0 rfl) ?_
  refine W.objInit hx hb hown (hts (.methodLink RX0 1 objectInit) (by decide +kernel)) (hts (.instanceMethod objectInit) (by decide +kernel)) (hts _ (List.mem_cons_of_mem _ (List.mem_append_left _ (List.mem_of_getElem? (i := 2) rfl)))) rfl (by rw [hml]; exact hl.1) rfl dX0_init_1 (Nat.le_of_ble_eq_true rfl) (Nat.le_of_ble_eq_true rfl) ?_
  refine W.eq (g2 := F0 m 4 ls []) rfl ?_
  refine lv_aload_n hx hb dX0_init_4 rfl (lv_at hl 0 rfl) ?_
  refine lv_bipush (v := nI 120) hx hb dX0_init_5 (by decide) ?_
  refine va_newa (atype := .int) (n := nI 120) (N' := 120) (ty := .int) (a0 := (120, .inl (fun _ => nI 0))) hx hb (hts (.arrayClass .int) (by decide +kernel)) rfl hK hP hD hS hA (fun cA => tn_c0i cA _) (nI_pos (by omega)) (nI_clamp (by omega)) (show 120 * 4 ≤ 536870912 by omega) (Nat.le_of_ble_eq_true rfl) (Nat.le_of_ble_eq_true rfl) dX0_init_7 (fun a1 c0 H hK hP hD hS => ?_)
  have hK : va_K (dC, dI) vwCl [(c0, .int)] s := hK
  have hP : va_P (dC, dI) vwCl [(h, .inr (0, [.null, .null, .null, .null, .int 0, .int 0, .null, .null, .null, .int 0, .long 0])), (a1, .inl (c0, 120, .inl (fun _ => nI 0)))] H := hP
  have hD : va_D A [(h, .inr (0, [.null, .null, .null, .null, .int 0, .int 0, .null, .null, .null, .int 0, .long 0])), (a1, .inl (c0, 120, .inl (fun _ => nI 0)))] := hD
  refine va_putF (D := (dC, dI)) (ci := 0) (v := .ref a1) (ty := .array .int) (C := RX0) (T := TX0) (N := 11) hx hb hts hin tyX0 tyX0_ok nmX0 hown hK hP hD hS 0 rfl rfl 0 (by decide) (hts (.fieldLink RX0 9 "TimeNet" "firstPoint" "[I") (by decide +kernel)) (fun _ h9 => h9) rfl hin2 rfl (by decide +kernel) rfl rfl (Nat.le_of_ble_eq_true rfl) dX0_init_9 (fun H locs hP hD hS => ?_)
  have hP : va_P (dC, dI) vwCl [(h, .inr (0, [.ref a1, .null, .null, .null, .int 0, .int 0, .null, .null, .null, .int 0, .long 0])), (a1, .inl (c0, 120, .inl (fun _ => nI 0)))] H := hP
  have hD : va_D A [(h, .inr (0, [.ref a1, .null, .null, .null, .int 0, .int 0, .null, .null, .null, .int 0, .long 0])), (a1, .inl (c0, 120, .inl (fun _ => nI 0)))] := hD
  refine lv_aload_n hx hb dX0_init_12 rfl (lv_at hl 0 rfl) ?_
  refine lv_bipush (v := nI 120) hx hb dX0_init_13 (by decide) ?_
  refine va_newa (atype := .int) (n := nI 120) (N' := 120) (ty := .int) (a0 := (120, .inl (fun _ => nI 0))) hx hb (hts (.arrayClass .int) (by decide +kernel)) rfl hK hP hD hS hA (fun cA => tn_c0i cA _) (nI_pos (by omega)) (nI_clamp (by omega)) (show 120 * 4 ≤ 536870912 by omega) (Nat.le_of_ble_eq_true rfl) (Nat.le_of_ble_eq_true rfl) dX0_init_15 (fun a2 c1 H hK hP hD hS => ?_)
  have hK : va_K (dC, dI) vwCl [(c0, .int), (c1, .int)] s := hK
  have hP : va_P (dC, dI) vwCl [(h, .inr (0, [.ref a1, .null, .null, .null, .int 0, .int 0, .null, .null, .null, .int 0, .long 0])), (a1, .inl (c0, 120, .inl (fun _ => nI 0))), (a2, .inl (c1, 120, .inl (fun _ => nI 0)))] H := hP
  have hD : va_D A [(h, .inr (0, [.ref a1, .null, .null, .null, .int 0, .int 0, .null, .null, .null, .int 0, .long 0])), (a1, .inl (c0, 120, .inl (fun _ => nI 0))), (a2, .inl (c1, 120, .inl (fun _ => nI 0)))] := hD
  refine va_putF (D := (dC, dI)) (ci := 0) (v := .ref a2) (ty := .array .int) (C := RX0) (T := TX0) (N := 11) hx hb hts hin tyX0 tyX0_ok nmX0 hown hK hP hD hS 0 rfl rfl 1 (by decide) (hts (.fieldLink RX0 13 "TimeNet" "secondPoint" "[I") (by decide +kernel)) (fun _ h9 => h9) rfl hin2 rfl (by decide +kernel) rfl rfl (Nat.le_of_ble_eq_true rfl) dX0_init_17 (fun H locs hP hD hS => ?_)
  have hP : va_P (dC, dI) vwCl [(h, .inr (0, [.ref a1, .ref a2, .null, .null, .int 0, .int 0, .null, .null, .null, .int 0, .long 0])), (a1, .inl (c0, 120, .inl (fun _ => nI 0))), (a2, .inl (c1, 120, .inl (fun _ => nI 0)))] H := hP
  have hD : va_D A [(h, .inr (0, [.ref a1, .ref a2, .null, .null, .int 0, .int 0, .null, .null, .null, .int 0, .long 0])), (a1, .inl (c0, 120, .inl (fun _ => nI 0))), (a2, .inl (c1, 120, .inl (fun _ => nI 0)))] := hD
  refine lv_aload_n hx hb dX0_init_20 rfl (lv_at hl 0 rfl) ?_
  refine lv_bipush (v := nI 120) hx hb dX0_init_21 (by decide) ?_
  refine va_newa (atype := .long) (n := nI 120) (N' := 120) (ty := .long) (a0 := (120, .inr (.inl (fun _ => 0)))) hx hb (hts (.arrayClass .long) (by decide +kernel)) rfl hK hP hD hS hA (fun cA => tn_c0l cA _) (nI_pos (by omega)) (nI_clamp (by omega)) (show 120 * 8 ≤ 536870912 by omega) (Nat.le_of_ble_eq_true rfl) (Nat.le_of_ble_eq_true rfl) dX0_init_23 (fun a3 c2 H hK hP hD hS => ?_)
  have hK : va_K (dC, dI) vwCl [(c0, .int), (c1, .int), (c2, .long)] s := hK
  have hP : va_P (dC, dI) vwCl [(h, .inr (0, [.ref a1, .ref a2, .null, .null, .int 0, .int 0, .null, .null, .null, .int 0, .long 0])), (a1, .inl (c0, 120, .inl (fun _ => nI 0))), (a2, .inl (c1, 120, .inl (fun _ => nI 0))), (a3, .inl (c2, 120, .inr (.inl (fun _ => 0))))] H := hP
  have hD : va_D A [(h, .inr (0, [.ref a1, .ref a2, .null, .null, .int 0, .int 0, .null, .null, .null, .int 0, .long 0])), (a1, .inl (c0, 120, .inl (fun _ => nI 0))), (a2, .inl (c1, 120, .inl (fun _ => nI 0))), (a3, .inl (c2, 120, .inr (.inl (fun _ => 0))))] := hD
  refine va_putF (D := (dC, dI)) (ci := 0) (v := .ref a3) (ty := .array .long) (C := RX0) (T := TX0) (N := 11) hx hb hts hin tyX0 tyX0_ok nmX0 hown hK hP hD hS 0 rfl rfl 2 (by decide) (hts (.fieldLink RX0 16 "TimeNet" "most" "[J") (by decide +kernel)) (fun _ h9 => h9) rfl hin2 rfl (by decide +kernel) rfl rfl (Nat.le_of_ble_eq_true rfl) dX0_init_25 (fun H locs hP hD hS => ?_)
  have hP : va_P (dC, dI) vwCl [(h, .inr (0, [.ref a1, .ref a2, .ref a3, .null, .int 0, .int 0, .null, .null, .null, .int 0, .long 0])), (a1, .inl (c0, 120, .inl (fun _ => nI 0))), (a2, .inl (c1, 120, .inl (fun _ => nI 0))), (a3, .inl (c2, 120, .inr (.inl (fun _ => 0))))] H := hP
  have hD : va_D A [(h, .inr (0, [.ref a1, .ref a2, .ref a3, .null, .int 0, .int 0, .null, .null, .null, .int 0, .long 0])), (a1, .inl (c0, 120, .inl (fun _ => nI 0))), (a2, .inl (c1, 120, .inl (fun _ => nI 0))), (a3, .inl (c2, 120, .inr (.inl (fun _ => 0))))] := hD
  refine lv_aload_n hx hb dX0_init_28 rfl (lv_at hl 0 rfl) ?_
  refine lv_bipush (v := nI 120) hx hb dX0_init_29 (by decide) ?_
  refine va_newa (atype := .boolean) (n := nI 120) (N' := 120) (ty := .boolean) (a0 := (120, .inl (fun _ => tn_b false))) hx hb (hts (.arrayClass .boolean) (by decide +kernel)) rfl hK hP hD hS hA (fun cA => tn_c0b cA _) (nI_pos (by omega)) (nI_clamp (by omega)) (show 120 * 1 ≤ 536870912 by omega) (Nat.le_of_ble_eq_true rfl) (Nat.le_of_ble_eq_true rfl) dX0_init_31 (fun a4 c3 H hK hP hD hS => ?_)
  have hK : va_K (dC, dI) vwCl [(c0, .int), (c1, .int), (c2, .long), (c3, .boolean)] s := hK
  have hP : va_P (dC, dI) vwCl [(h, .inr (0, [.ref a1, .ref a2, .ref a3, .null, .int 0, .int 0, .null, .null, .null, .int 0, .long 0])), (a1, .inl (c0, 120, .inl (fun _ => nI 0))), (a2, .inl (c1, 120, .inl (fun _ => nI 0))), (a3, .inl (c2, 120, .inr (.inl (fun _ => 0)))), (a4, .inl (c3, 120, .inl (fun _ => tn_b false)))] H := hP
  have hD : va_D A [(h, .inr (0, [.ref a1, .ref a2, .ref a3, .null, .int 0, .int 0, .null, .null, .null, .int 0, .long 0])), (a1, .inl (c0, 120, .inl (fun _ => nI 0))), (a2, .inl (c1, 120, .inl (fun _ => nI 0))), (a3, .inl (c2, 120, .inr (.inl (fun _ => 0)))), (a4, .inl (c3, 120, .inl (fun _ => tn_b false)))] := hD
  refine va_putF (D := (dC, dI)) (ci := 0) (v := .ref a4) (ty := .array .boolean) (C := RX0) (T := TX0) (N := 11) hx hb hts hin tyX0 tyX0_ok nmX0 hown hK hP hD hS 0 rfl rfl 3 (by decide) (hts (.fieldLink RX0 20 "TimeNet" "isOn" "[Z") (by decide +kernel)) (fun _ h9 => h9) rfl hin2 rfl (by decide +kernel) rfl rfl (Nat.le_of_ble_eq_true rfl) dX0_init_33 (fun H locs hP hD hS => ?_)
  have hP : va_P (dC, dI) vwCl [(h, .inr (0, [.ref a1, .ref a2, .ref a3, .ref a4, .int 0, .int 0, .null, .null, .null, .int 0, .long 0])), (a1, .inl (c0, 120, .inl (fun _ => nI 0))), (a2, .inl (c1, 120, .inl (fun _ => nI 0))), (a3, .inl (c2, 120, .inr (.inl (fun _ => 0)))), (a4, .inl (c3, 120, .inl (fun _ => tn_b false)))] H := hP
  have hD : va_D A [(h, .inr (0, [.ref a1, .ref a2, .ref a3, .ref a4, .int 0, .int 0, .null, .null, .null, .int 0, .long 0])), (a1, .inl (c0, 120, .inl (fun _ => nI 0))), (a2, .inl (c1, 120, .inl (fun _ => nI 0))), (a3, .inl (c2, 120, .inr (.inl (fun _ => 0)))), (a4, .inl (c3, 120, .inl (fun _ => tn_b false)))] := hD
  refine lv_aload_n hx hb dX0_init_36 rfl (lv_at hl 0 rfl) ?_
  refine lv_bipush (v := nI 20) hx hb dX0_init_37 (by decide) ?_
  refine va_newa (atype := .long) (n := nI 20) (N' := 20) (ty := .long) (a0 := (20, .inr (.inl (fun _ => 0)))) hx hb (hts (.arrayClass .long) (by decide +kernel)) rfl hK hP hD hS hA (fun cA => tn_c0l cA _) (nI_pos (by omega)) (nI_clamp (by omega)) (show 20 * 8 ≤ 536870912 by omega) (Nat.le_of_ble_eq_true rfl) (Nat.le_of_ble_eq_true rfl) dX0_init_39 (fun a5 c4 H hK hP hD hS => ?_)
  have hK : va_K (dC, dI) vwCl [(c0, .int), (c1, .int), (c2, .long), (c3, .boolean), (c4, .long)] s := hK
  have hP : va_P (dC, dI) vwCl [(h, .inr (0, [.ref a1, .ref a2, .ref a3, .ref a4, .int 0, .int 0, .null, .null, .null, .int 0, .long 0])), (a1, .inl (c0, 120, .inl (fun _ => nI 0))), (a2, .inl (c1, 120, .inl (fun _ => nI 0))), (a3, .inl (c2, 120, .inr (.inl (fun _ => 0)))), (a4, .inl (c3, 120, .inl (fun _ => tn_b false))), (a5, .inl (c4, 20, .inr (.inl (fun _ => 0))))] H := hP
  have hD : va_D A [(h, .inr (0, [.ref a1, .ref a2, .ref a3, .ref a4, .int 0, .int 0, .null, .null, .null, .int 0, .long 0])), (a1, .inl (c0, 120, .inl (fun _ => nI 0))), (a2, .inl (c1, 120, .inl (fun _ => nI 0))), (a3, .inl (c2, 120, .inr (.inl (fun _ => 0)))), (a4, .inl (c3, 120, .inl (fun _ => tn_b false))), (a5, .inl (c4, 20, .inr (.inl (fun _ => 0))))] := hD
  refine va_putF (D := (dC, dI)) (ci := 0) (v := .ref a5) (ty := .array .long) (C := RX0) (T := TX0) (N := 11) hx hb hts hin tyX0 tyX0_ok nmX0 hown hK hP hD hS 0 rfl rfl 6 (by decide) (hts (.fieldLink RX0 24 "TimeNet" "lengthFrom" "[J") (by decide +kernel)) (fun _ h9 => h9) rfl hin2 rfl (by decide +kernel) rfl rfl (Nat.le_of_ble_eq_true rfl) dX0_init_41 (fun H locs hP hD hS => ?_)
  have hP : va_P (dC, dI) vwCl [(h, .inr (0, [.ref a1, .ref a2, .ref a3, .ref a4, .int 0, .int 0, .ref a5, .null, .null, .int 0, .long 0])), (a1, .inl (c0, 120, .inl (fun _ => nI 0))), (a2, .inl (c1, 120, .inl (fun _ => nI 0))), (a3, .inl (c2, 120, .inr (.inl (fun _ => 0)))), (a4, .inl (c3, 120, .inl (fun _ => tn_b false))), (a5, .inl (c4, 20, .inr (.inl (fun _ => 0))))] H := hP
  have hD : va_D A [(h, .inr (0, [.ref a1, .ref a2, .ref a3, .ref a4, .int 0, .int 0, .ref a5, .null, .null, .int 0, .long 0])), (a1, .inl (c0, 120, .inl (fun _ => nI 0))), (a2, .inl (c1, 120, .inl (fun _ => nI 0))), (a3, .inl (c2, 120, .inr (.inl (fun _ => 0)))), (a4, .inl (c3, 120, .inl (fun _ => tn_b false))), (a5, .inl (c4, 20, .inr (.inl (fun _ => 0))))] := hD
  refine lv_aload_n hx hb dX0_init_44 rfl (lv_at hl 0 rfl) ?_
  refine lv_bipush (v := nI 20) hx hb dX0_init_45 (by decide) ?_
  refine va_newa (atype := .int) (n := nI 20) (N' := 20) (ty := .int) (a0 := (20, .inl (fun _ => 0))) hx hb (hts (.arrayClass .int) (by decide +kernel)) rfl hK hP hD hS hA (fun cA => tn_c0i0 cA _) (nI_pos (by omega)) (nI_clamp (by omega)) (show 20 * 4 ≤ 536870912 by omega) (Nat.le_of_ble_eq_true rfl) (Nat.le_of_ble_eq_true rfl) dX0_init_47 (fun a6 c5 H hK hP hD hS => ?_)
  have hK : va_K (dC, dI) vwCl [(c0, .int), (c1, .int), (c2, .long), (c3, .boolean), (c4, .long), (c5, .int)] s := hK
  have hP : va_P (dC, dI) vwCl [(h, .inr (0, [.ref a1, .ref a2, .ref a3, .ref a4, .int 0, .int 0, .ref a5, .null, .null, .int 0, .long 0])), (a1, .inl (c0, 120, .inl (fun _ => nI 0))), (a2, .inl (c1, 120, .inl (fun _ => nI 0))), (a3, .inl (c2, 120, .inr (.inl (fun _ => 0)))), (a4, .inl (c3, 120, .inl (fun _ => tn_b false))), (a5, .inl (c4, 20, .inr (.inl (fun _ => 0)))), (a6, .inl (c5, 20, .inl (fun _ => 0)))] H := hP
  have hD : va_D A [(h, .inr (0, [.ref a1, .ref a2, .ref a3, .ref a4, .int 0, .int 0, .ref a5, .null, .null, .int 0, .long 0])), (a1, .inl (c0, 120, .inl (fun _ => nI 0))), (a2, .inl (c1, 120, .inl (fun _ => nI 0))), (a3, .inl (c2, 120, .inr (.inl (fun _ => 0)))), (a4, .inl (c3, 120, .inl (fun _ => tn_b false))), (a5, .inl (c4, 20, .inr (.inl (fun _ => 0)))), (a6, .inl (c5, 20, .inl (fun _ => 0)))] := hD
  refine va_putF (D := (dC, dI)) (ci := 0) (v := .ref a6) (ty := .array .int) (C := RX0) (T := TX0) (N := 11) hx hb hts hin tyX0 tyX0_ok nmX0 hown hK hP hD hS 0 rfl rfl 7 (by decide) (hts (.fieldLink RX0 27 "TimeNet" "stepsFrom" "[I") (by decide +kernel)) (fun _ h9 => h9) rfl hin2 rfl (by decide +kernel) rfl rfl (Nat.le_of_ble_eq_true rfl) dX0_init_49 (fun H locs hP hD hS => ?_)
  have hP : va_P (dC, dI) vwCl [(h, .inr (0, [.ref a1, .ref a2, .ref a3, .ref a4, .int 0, .int 0, .ref a5, .ref a6, .null, .int 0, .long 0])), (a1, .inl (c0, 120, .inl (fun _ => nI 0))), (a2, .inl (c1, 120, .inl (fun _ => nI 0))), (a3, .inl (c2, 120, .inr (.inl (fun _ => 0)))), (a4, .inl (c3, 120, .inl (fun _ => tn_b false))), (a5, .inl (c4, 20, .inr (.inl (fun _ => 0)))), (a6, .inl (c5, 20, .inl (fun _ => 0)))] H := hP
  have hD : va_D A [(h, .inr (0, [.ref a1, .ref a2, .ref a3, .ref a4, .int 0, .int 0, .ref a5, .ref a6, .null, .int 0, .long 0])), (a1, .inl (c0, 120, .inl (fun _ => nI 0))), (a2, .inl (c1, 120, .inl (fun _ => nI 0))), (a3, .inl (c2, 120, .inr (.inl (fun _ => 0)))), (a4, .inl (c3, 120, .inl (fun _ => tn_b false))), (a5, .inl (c4, 20, .inr (.inl (fun _ => 0)))), (a6, .inl (c5, 20, .inl (fun _ => 0)))] := hD
  refine lv_aload_n hx hb dX0_init_52 rfl (lv_at hl 0 rfl) ?_
  refine lv_bipush (v := nI 21) hx hb dX0_init_53 (by decide) ?_
  refine va_newa (atype := .int) (n := nI 21) (N' := 21) (ty := .int) (a0 := (21, .inl (fun _ => nI 0))) hx hb (hts (.arrayClass .int) (by decide +kernel)) rfl hK hP hD hS hA (fun cA => tn_c0i cA _) (nI_pos (by omega)) (nI_clamp (by omega)) (show 21 * 4 ≤ 536870912 by omega) (Nat.le_of_ble_eq_true rfl) (Nat.le_of_ble_eq_true rfl) dX0_init_55 (fun a7 c6 H hK hP hD hS => ?_)
  have hK : va_K (dC, dI) vwCl [(c0, .int), (c1, .int), (c2, .long), (c3, .boolean), (c4, .long), (c5, .int), (c6, .int)] s := hK
  have hP : va_P (dC, dI) vwCl [(h, .inr (0, [.ref a1, .ref a2, .ref a3, .ref a4, .int 0, .int 0, .ref a5, .ref a6, .null, .int 0, .long 0])), (a1, .inl (c0, 120, .inl (fun _ => nI 0))), (a2, .inl (c1, 120, .inl (fun _ => nI 0))), (a3, .inl (c2, 120, .inr (.inl (fun _ => 0)))), (a4, .inl (c3, 120, .inl (fun _ => tn_b false))), (a5, .inl (c4, 20, .inr (.inl (fun _ => 0)))), (a6, .inl (c5, 20, .inl (fun _ => 0))), (a7, .inl (c6, 21, .inl (fun _ => nI 0)))] H := hP
  have hD : va_D A [(h, .inr (0, [.ref a1, .ref a2, .ref a3, .ref a4, .int 0, .int 0, .ref a5, .ref a6, .null, .int 0, .long 0])), (a1, .inl (c0, 120, .inl (fun _ => nI 0))), (a2, .inl (c1, 120, .inl (fun _ => nI 0))), (a3, .inl (c2, 120, .inr (.inl (fun _ => 0)))), (a4, .inl (c3, 120, .inl (fun _ => tn_b false))), (a5, .inl (c4, 20, .inr (.inl (fun _ => 0)))), (a6, .inl (c5, 20, .inl (fun _ => 0))), (a7, .inl (c6, 21, .inl (fun _ => nI 0)))] := hD
  refine va_putF (D := (dC, dI)) (ci := 0) (v := .ref a7) (ty := .array .int) (C := RX0) (T := TX0) (N := 11) hx hb hts hin tyX0 tyX0_ok nmX0 hown hK hP hD hS 0 rfl rfl 8 (by decide) (hts (.fieldLink RX0 30 "TimeNet" "rowPoints" "[I") (by decide +kernel)) (fun _ h9 => h9) rfl hin2 rfl (by decide +kernel) rfl rfl (Nat.le_of_ble_eq_true rfl) dX0_init_57 (fun H locs hP hD hS => ?_)
  have hP : va_P (dC, dI) vwCl [(h, .inr (0, [.ref a1, .ref a2, .ref a3, .ref a4, .int 0, .int 0, .ref a5, .ref a6, .ref a7, .int 0, .long 0])), (a1, .inl (c0, 120, .inl (fun _ => nI 0))), (a2, .inl (c1, 120, .inl (fun _ => nI 0))), (a3, .inl (c2, 120, .inr (.inl (fun _ => 0)))), (a4, .inl (c3, 120, .inl (fun _ => tn_b false))), (a5, .inl (c4, 20, .inr (.inl (fun _ => 0)))), (a6, .inl (c5, 20, .inl (fun _ => 0))), (a7, .inl (c6, 21, .inl (fun _ => nI 0)))] H := hP
  have hD : va_D A [(h, .inr (0, [.ref a1, .ref a2, .ref a3, .ref a4, .int 0, .int 0, .ref a5, .ref a6, .ref a7, .int 0, .long 0])), (a1, .inl (c0, 120, .inl (fun _ => nI 0))), (a2, .inl (c1, 120, .inl (fun _ => nI 0))), (a3, .inl (c2, 120, .inr (.inl (fun _ => 0)))), (a4, .inl (c3, 120, .inl (fun _ => tn_b false))), (a5, .inl (c4, 20, .inr (.inl (fun _ => 0)))), (a6, .inl (c5, 20, .inl (fun _ => 0))), (a7, .inl (c6, 21, .inl (fun _ => nI 0)))] := hD
  have e1 := (tn_sameI hK (i := 0) (j := 1) rfl rfl).symm
  subst e1
  have e4 := (tn_sameJ hK (i := 2) (j := 4) rfl rfl).symm
  subst e4
  have e5 := (tn_sameI hK (i := 0) (j := 5) rfl rfl).symm
  subst e5
  have e6 := (tn_sameI hK (i := 0) (j := 6) rfl rfl).symm
  subst e6
  have hK9 := hK.sub (tys' := tn_tys c0 c2 c3) [0, 2, 3] rfl
  refine W.widen (k := 7) (n := 541) (by decide) (by decide) ?_
  exact W.vret hx hb hr (fun t ht hW => ⟨⟨(), rfl, trivial, a1, a2, a3, a4, a5, a6, a7, c0, c2, c3, by rw [ht]; exact hP, va_K.moved hW.alike hK9, hD⟩, hS.F ht⟩) hS.2.2 dX0_init_60
set_option maxHeartbeats 4000000 in
set_option maxRecDepth 100000 in
/-- X1(): an empty net -/
theorem cX1_init_ok (l : Launch) (dC : Nat → ClassId) (dI : Nat → Nat → Nat) (h sz : Nat) : Met l yX1_init wsX1_init ({ frames := 1, cells := 6, slots := 924, locals := 12 }) (va_Pc [.ref h] (tn_Pre dC dI [] [(h, .inr (1, [.int 0, .int 0, .null, .null, .null, .null, .int 0, .null, .long 0, .null, .long 0, .int 0]))] sz)) (va_Qv (S := Unit) (fun _ => True) (fun _ t => ∃ (b1 b2 b3 b4 b5 b6 : Nat) (cI cL cZ : ClassId), tn_at dC dI (tn_tys cI cL cZ) (va_A [(h, .inr (1, [.int 0, .int 0, .null, .null, .null, .null, .int 0, .null, .long 0, .null, .long 0, .int 0]))] sz) (tm_ws h b1 b2 b3 b4 b5 b6 cI cL cZ 0 0 (fun _ => 0) (fun _ => 0) (fun _ => 0) (fun _ => false) 0 (fun _ => 0) 0 (fun _ => 0) 0 0) t) (va_A [(h, .inr (1, [.int 0, .int 0, .null, .null, .null, .null, .int 0, .null, .long 0, .null, .long 0, .int 0]))] sz)) 6 924 (va_A [(h, .inr (1, [.int 0, .int 0, .null, .null, .null, .null, .int 0, .null, .long 0, .null, .long 0, .int 0]))] sz) := by
  refine Met.ofW (cc := cX1_init) (maxL := 1) (ret := none) (by decide) rfl ?_
  intro p e s m args below meth c s₁ B hml hv
  obtain ⟨rfl, hsz, hP, hK, hD0⟩ := hv
  have hx := B.exec
  have hb := B.bytes
  have hr := B.returns
  have hts := atoms_spec (ws := wsX1_init) B.pre
  have hown : s.vm.findClass RX1 = some m.cls := findClass_of_methodNamed B.named
  have hlocks := B.notSynchronized
  have hin2 : meth.name = "<init>" := (name_of_methodNamed B.named B.method).1
  subst hsz
  have hD := hD0.self (sz := s.heap.size)
  generalize hAe : va_A [(h, .inr (1, [.int 0, .int 0, .null, .null, .null, .null, .int 0, .null, .long 0, .null, .long 0, .int 0]))] s.heap.size = A at hD ⊢
  have hA : ∀ q : Nat, s.heap.size ≤ q → A q := fun q h => by rw [← hAe]; exact Or.inr h
  have hS : va_S A s.heap s.heap [] := va_S.rf
  have hl := lv_entry ([.ref h]) (n := 1) (Nat.le_of_ble_eq_true rfl)
  rw [lg_entry_eq]
  generalize (lg_sl ([.ref h]) ++ List.replicate (1 - (lg_sl ([.ref h])).length) Slot.unset).toArray = ls at hl ⊢
  have hl : lv_has ls 1 [(0, .ref h)] := hl
  have hin : ∀ w ∈ u_ws RX1 TX1 12, w ∈ wsX1_init := by decide +kernel
  refine lv_aload_n hx hb dX1_init_0 rfl (lv_at hl 0 rfl) ?_
  refine W.objInit hx hb hown (hts (.methodLink RX1 1 objectInit) (by decide +kernel)) (hts (.instanceMethod objectInit) (by decide +kernel)) (hts _ (List.mem_cons_of_mem _ (List.mem_append_left _ (List.mem_of_getElem? (i := 2) rfl)))) rfl (by rw [hml]; exact hl.1) rfl dX1_init_1 (Nat.le_of_ble_eq_true rfl) (Nat.le_of_ble_eq_true rfl) ?_
  refine W.eq (g2 := F0 m 4 ls []) rfl ?_
  refine lv_aload_n hx hb dX1_init_4 rfl (lv_at hl 0 rfl) ?_
  refine lv_bipush (v := nI 120) hx hb dX1_init_5 (by decide) ?_
  refine va_newa (atype := .int) (n := nI 120) (N' := 120) (ty := .int) (a0 := (120, .inl (fun _ => nI 0))) hx hb (hts (.arrayClass .int) (by decide +kernel)) rfl hK hP hD hS hA (fun cA => tn_c0i cA _) (nI_pos (by omega)) (nI_clamp (by omega)) (show 120 * 4 ≤ 536870912 by omega) (Nat.le_of_ble_eq_true rfl) (Nat.le_of_ble_eq_true rfl) dX1_init_7 (fun b1 c0 H hK hP hD hS => ?_)
  have hK : va_K (dC, dI) vwCl [(c0, .int)] s := hK
  have hP : va_P (dC, dI) vwCl [(h, .inr (1, [.int 0, .int 0, .null, .null, .null, .null, .int 0, .null, .long 0, .null, .long 0, .int 0])), (b1, .inl (c0, 120, .inl (fun _ => nI 0)))] H := hP
  have hD : va_D A [(h, .inr (1, [.int 0, .int 0, .null, .null, .null, .null, .int 0, .null, .long 0, .null, .long 0, .int 0])), (b1, .inl (c0, 120, .inl (fun _ => nI 0)))] := hD
  refine va_putF (D := (dC, dI)) (ci := 1) (v := .ref b1) (ty := .array .int) (C := RX1) (T := TX1) (N := 12) hx hb hts hin tyX1 tyX1_ok nmX1 hown hK hP hD hS 0 rfl rfl 2 (by decide) (hts (.fieldLink RX1 7 "TimeNetModel" "first" "[I") (by decide +kernel)) (fun _ h9 => h9) rfl hin2 rfl (by decide +kernel) rfl rfl (Nat.le_of_ble_eq_true rfl) dX1_init_9 (fun H locs hP hD hS => ?_)
  have hP : va_P (dC, dI) vwCl [(h, .inr (1, [.int 0, .int 0, .ref b1, .null, .null, .null, .int 0, .null, .long 0, .null, .long 0, .int 0])), (b1, .inl (c0, 120, .inl (fun _ => nI 0)))] H := hP
  have hD : va_D A [(h, .inr (1, [.int 0, .int 0, .ref b1, .null, .null, .null, .int 0, .null, .long 0, .null, .long 0, .int 0])), (b1, .inl (c0, 120, .inl (fun _ => nI 0)))] := hD
  refine lv_aload_n hx hb dX1_init_12 rfl (lv_at hl 0 rfl) ?_
  refine lv_bipush (v := nI 120) hx hb dX1_init_13 (by decide) ?_
  refine va_newa (atype := .int) (n := nI 120) (N' := 120) (ty := .int) (a0 := (120, .inl (fun _ => nI 0))) hx hb (hts (.arrayClass .int) (by decide +kernel)) rfl hK hP hD hS hA (fun cA => tn_c0i cA _) (nI_pos (by omega)) (nI_clamp (by omega)) (show 120 * 4 ≤ 536870912 by omega) (Nat.le_of_ble_eq_true rfl) (Nat.le_of_ble_eq_true rfl) dX1_init_15 (fun b2 c1 H hK hP hD hS => ?_)
  have hK : va_K (dC, dI) vwCl [(c0, .int), (c1, .int)] s := hK
  have hP : va_P (dC, dI) vwCl [(h, .inr (1, [.int 0, .int 0, .ref b1, .null, .null, .null, .int 0, .null, .long 0, .null, .long 0, .int 0])), (b1, .inl (c0, 120, .inl (fun _ => nI 0))), (b2, .inl (c1, 120, .inl (fun _ => nI 0)))] H := hP
  have hD : va_D A [(h, .inr (1, [.int 0, .int 0, .ref b1, .null, .null, .null, .int 0, .null, .long 0, .null, .long 0, .int 0])), (b1, .inl (c0, 120, .inl (fun _ => nI 0))), (b2, .inl (c1, 120, .inl (fun _ => nI 0)))] := hD
  refine va_putF (D := (dC, dI)) (ci := 1) (v := .ref b2) (ty := .array .int) (C := RX1) (T := TX1) (N := 12) hx hb hts hin tyX1 tyX1_ok nmX1 hown hK hP hD hS 0 rfl rfl 3 (by decide) (hts (.fieldLink RX1 13 "TimeNetModel" "second" "[I") (by decide +kernel)) (fun _ h9 => h9) rfl hin2 rfl (by decide +kernel) rfl rfl (Nat.le_of_ble_eq_true rfl) dX1_init_17 (fun H locs hP hD hS => ?_)
  have hP : va_P (dC, dI) vwCl [(h, .inr (1, [.int 0, .int 0, .ref b1, .ref b2, .null, .null, .int 0, .null, .long 0, .null, .long 0, .int 0])), (b1, .inl (c0, 120, .inl (fun _ => nI 0))), (b2, .inl (c1, 120, .inl (fun _ => nI 0)))] H := hP
  have hD : va_D A [(h, .inr (1, [.int 0, .int 0, .ref b1, .ref b2, .null, .null, .int 0, .null, .long 0, .null, .long 0, .int 0])), (b1, .inl (c0, 120, .inl (fun _ => nI 0))), (b2, .inl (c1, 120, .inl (fun _ => nI 0)))] := hD
  refine lv_aload_n hx hb dX1_init_20 rfl (lv_at hl 0 rfl) ?_
  refine lv_bipush (v := nI 120) hx hb dX1_init_21 (by decide) ?_
  refine va_newa (atype := .long) (n := nI 120) (N' := 120) (ty := .long) (a0 := (120, .inr (.inl (fun _ => 0)))) hx hb (hts (.arrayClass .long) (by decide +kernel)) rfl hK hP hD hS hA (fun cA => tn_c0l cA _) (nI_pos (by omega)) (nI_clamp (by omega)) (show 120 * 8 ≤ 536870912 by omega) (Nat.le_of_ble_eq_true rfl) (Nat.le_of_ble_eq_true rfl) dX1_init_23 (fun b3 c2 H hK hP hD hS => ?_)
  have hK : va_K (dC, dI) vwCl [(c0, .int), (c1, .int), (c2, .long)] s := hK
  have hP : va_P (dC, dI) vwCl [(h, .inr (1, [.int 0, .int 0, .ref b1, .ref b2, .null, .null, .int 0, .null, .long 0, .null, .long 0, .int 0])), (b1, .inl (c0, 120, .inl (fun _ => nI 0))), (b2, .inl (c1, 120, .inl (fun _ => nI 0))), (b3, .inl (c2, 120, .inr (.inl (fun _ => 0))))] H := hP
  have hD : va_D A [(h, .inr (1, [.int 0, .int 0, .ref b1, .ref b2, .null, .null, .int 0, .null, .long 0, .null, .long 0, .int 0])), (b1, .inl (c0, 120, .inl (fun _ => nI 0))), (b2, .inl (c1, 120, .inl (fun _ => nI 0))), (b3, .inl (c2, 120, .inr (.inl (fun _ => 0))))] := hD
  refine va_putF (D := (dC, dI)) (ci := 1) (v := .ref b3) (ty := .array .long) (C := RX1) (T := TX1) (N := 12) hx hb hts hin tyX1 tyX1_ok nmX1 hown hK hP hD hS 0 rfl rfl 4 (by decide) (hts (.fieldLink RX1 16 "TimeNetModel" "c" "[J") (by decide +kernel)) (fun _ h9 => h9) rfl hin2 rfl (by decide +kernel) rfl rfl (Nat.le_of_ble_eq_true rfl) dX1_init_25 (fun H locs hP hD hS => ?_)
  have hP : va_P (dC, dI) vwCl [(h, .inr (1, [.int 0, .int 0, .ref b1, .ref b2, .ref b3, .null, .int 0, .null, .long 0, .null, .long 0, .int 0])), (b1, .inl (c0, 120, .inl (fun _ => nI 0))), (b2, .inl (c1, 120, .inl (fun _ => nI 0))), (b3, .inl (c2, 120, .inr (.inl (fun _ => 0))))] H := hP
  have hD : va_D A [(h, .inr (1, [.int 0, .int 0, .ref b1, .ref b2, .ref b3, .null, .int 0, .null, .long 0, .null, .long 0, .int 0])), (b1, .inl (c0, 120, .inl (fun _ => nI 0))), (b2, .inl (c1, 120, .inl (fun _ => nI 0))), (b3, .inl (c2, 120, .inr (.inl (fun _ => 0))))] := hD
  refine lv_aload_n hx hb dX1_init_28 rfl (lv_at hl 0 rfl) ?_
  refine lv_bipush (v := nI 120) hx hb dX1_init_29 (by decide) ?_
  refine va_newa (atype := .boolean) (n := nI 120) (N' := 120) (ty := .boolean) (a0 := (120, .inl (fun _ => tn_b false))) hx hb (hts (.arrayClass .boolean) (by decide +kernel)) rfl hK hP hD hS hA (fun cA => tn_c0b cA _) (nI_pos (by omega)) (nI_clamp (by omega)) (show 120 * 1 ≤ 536870912 by omega) (Nat.le_of_ble_eq_true rfl) (Nat.le_of_ble_eq_true rfl) dX1_init_31 (fun b4 c3 H hK hP hD hS => ?_)
  have hK : va_K (dC, dI) vwCl [(c0, .int), (c1, .int), (c2, .long), (c3, .boolean)] s := hK
  have hP : va_P (dC, dI) vwCl [(h, .inr (1, [.int 0, .int 0, .ref b1, .ref b2, .ref b3, .null, .int 0, .null, .long 0, .null, .long 0, .int 0])), (b1, .inl (c0, 120, .inl (fun _ => nI 0))), (b2, .inl (c1, 120, .inl (fun _ => nI 0))), (b3, .inl (c2, 120, .inr (.inl (fun _ => 0)))), (b4, .inl (c3, 120, .inl (fun _ => tn_b false)))] H := hP
  have hD : va_D A [(h, .inr (1, [.int 0, .int 0, .ref b1, .ref b2, .ref b3, .null, .int 0, .null, .long 0, .null, .long 0, .int 0])), (b1, .inl (c0, 120, .inl (fun _ => nI 0))), (b2, .inl (c1, 120, .inl (fun _ => nI 0))), (b3, .inl (c2, 120, .inr (.inl (fun _ => 0)))), (b4, .inl (c3, 120, .inl (fun _ => tn_b false)))] := hD
  refine va_putF (D := (dC, dI)) (ci := 1) (v := .ref b4) (ty := .array .boolean) (C := RX1) (T := TX1) (N := 12) hx hb hts hin tyX1 tyX1_ok nmX1 hown hK hP hD hS 0 rfl rfl 5 (by decide) (hts (.fieldLink RX1 20 "TimeNetModel" "isOn" "[Z") (by decide +kernel)) (fun _ h9 => h9) rfl hin2 rfl (by decide +kernel) rfl rfl (Nat.le_of_ble_eq_true rfl) dX1_init_33 (fun H locs hP hD hS => ?_)
  have hP : va_P (dC, dI) vwCl [(h, .inr (1, [.int 0, .int 0, .ref b1, .ref b2, .ref b3, .ref b4, .int 0, .null, .long 0, .null, .long 0, .int 0])), (b1, .inl (c0, 120, .inl (fun _ => nI 0))), (b2, .inl (c1, 120, .inl (fun _ => nI 0))), (b3, .inl (c2, 120, .inr (.inl (fun _ => 0)))), (b4, .inl (c3, 120, .inl (fun _ => tn_b false)))] H := hP
  have hD : va_D A [(h, .inr (1, [.int 0, .int 0, .ref b1, .ref b2, .ref b3, .ref b4, .int 0, .null, .long 0, .null, .long 0, .int 0])), (b1, .inl (c0, 120, .inl (fun _ => nI 0))), (b2, .inl (c1, 120, .inl (fun _ => nI 0))), (b3, .inl (c2, 120, .inr (.inl (fun _ => 0)))), (b4, .inl (c3, 120, .inl (fun _ => tn_b false)))] := hD
  refine lv_aload_n hx hb dX1_init_36 rfl (lv_at hl 0 rfl) ?_
  refine lv_bipush (v := nI 24) hx hb dX1_init_37 (by decide) ?_
  refine va_newa (atype := .int) (n := nI 24) (N' := 24) (ty := .int) (a0 := (24, .inl (fun _ => nI 0))) hx hb (hts (.arrayClass .int) (by decide +kernel)) rfl hK hP hD hS hA (fun cA => tn_c0i cA _) (nI_pos (by omega)) (nI_clamp (by omega)) (show 24 * 4 ≤ 536870912 by omega) (Nat.le_of_ble_eq_true rfl) (Nat.le_of_ble_eq_true rfl) dX1_init_39 (fun b5 c4 H hK hP hD hS => ?_)
  have hK : va_K (dC, dI) vwCl [(c0, .int), (c1, .int), (c2, .long), (c3, .boolean), (c4, .int)] s := hK
  have hP : va_P (dC, dI) vwCl [(h, .inr (1, [.int 0, .int 0, .ref b1, .ref b2, .ref b3, .ref b4, .int 0, .null, .long 0, .null, .long 0, .int 0])), (b1, .inl (c0, 120, .inl (fun _ => nI 0))), (b2, .inl (c1, 120, .inl (fun _ => nI 0))), (b3, .inl (c2, 120, .inr (.inl (fun _ => 0)))), (b4, .inl (c3, 120, .inl (fun _ => tn_b false))), (b5, .inl (c4, 24, .inl (fun _ => nI 0)))] H := hP
  have hD : va_D A [(h, .inr (1, [.int 0, .int 0, .ref b1, .ref b2, .ref b3, .ref b4, .int 0, .null, .long 0, .null, .long 0, .int 0])), (b1, .inl (c0, 120, .inl (fun _ => nI 0))), (b2, .inl (c1, 120, .inl (fun _ => nI 0))), (b3, .inl (c2, 120, .inr (.inl (fun _ => 0)))), (b4, .inl (c3, 120, .inl (fun _ => tn_b false))), (b5, .inl (c4, 24, .inl (fun _ => nI 0)))] := hD
  refine va_putF (D := (dC, dI)) (ci := 1) (v := .ref b5) (ty := .array .int) (C := RX1) (T := TX1) (N := 12) hx hb hts hin tyX1 tyX1_ok nmX1 hown hK hP hD hS 0 rfl rfl 7 (by decide) (hts (.fieldLink RX1 24 "TimeNetModel" "row" "[I") (by decide +kernel)) (fun _ h9 => h9) rfl hin2 rfl (by decide +kernel) rfl rfl (Nat.le_of_ble_eq_true rfl) dX1_init_41 (fun H locs hP hD hS => ?_)
  have hP : va_P (dC, dI) vwCl [(h, .inr (1, [.int 0, .int 0, .ref b1, .ref b2, .ref b3, .ref b4, .int 0, .ref b5, .long 0, .null, .long 0, .int 0])), (b1, .inl (c0, 120, .inl (fun _ => nI 0))), (b2, .inl (c1, 120, .inl (fun _ => nI 0))), (b3, .inl (c2, 120, .inr (.inl (fun _ => 0)))), (b4, .inl (c3, 120, .inl (fun _ => tn_b false))), (b5, .inl (c4, 24, .inl (fun _ => nI 0)))] H := hP
  have hD : va_D A [(h, .inr (1, [.int 0, .int 0, .ref b1, .ref b2, .ref b3, .ref b4, .int 0, .ref b5, .long 0, .null, .long 0, .int 0])), (b1, .inl (c0, 120, .inl (fun _ => nI 0))), (b2, .inl (c1, 120, .inl (fun _ => nI 0))), (b3, .inl (c2, 120, .inr (.inl (fun _ => 0)))), (b4, .inl (c3, 120, .inl (fun _ => tn_b false))), (b5, .inl (c4, 24, .inl (fun _ => nI 0)))] := hD
  refine lv_aload_n hx hb dX1_init_44 rfl (lv_at hl 0 rfl) ?_
  refine lv_sipush (v := nI 420) hx hb dX1_init_45 (by decide) ?_
  refine va_newa (atype := .long) (n := nI 420) (N' := 420) (ty := .long) (a0 := (420, .inr (.inl (fun _ => 0)))) hx hb (hts (.arrayClass .long) (by decide +kernel)) rfl hK hP hD hS hA (fun cA => tn_c0l cA _) (nI_pos (by omega)) (nI_clamp (by omega)) (show 420 * 8 ≤ 536870912 by omega) (Nat.le_of_ble_eq_true rfl) (Nat.le_of_ble_eq_true rfl) dX1_init_48 (fun b6 c5 H hK hP hD hS => ?_)
  have hK : va_K (dC, dI) vwCl [(c0, .int), (c1, .int), (c2, .long), (c3, .boolean), (c4, .int), (c5, .long)] s := hK
  have hP : va_P (dC, dI) vwCl [(h, .inr (1, [.int 0, .int 0, .ref b1, .ref b2, .ref b3, .ref b4, .int 0, .ref b5, .long 0, .null, .long 0, .int 0])), (b1, .inl (c0, 120, .inl (fun _ => nI 0))), (b2, .inl (c1, 120, .inl (fun _ => nI 0))), (b3, .inl (c2, 120, .inr (.inl (fun _ => 0)))), (b4, .inl (c3, 120, .inl (fun _ => tn_b false))), (b5, .inl (c4, 24, .inl (fun _ => nI 0))), (b6, .inl (c5, 420, .inr (.inl (fun _ => 0))))] H := hP
  have hD : va_D A [(h, .inr (1, [.int 0, .int 0, .ref b1, .ref b2, .ref b3, .ref b4, .int 0, .ref b5, .long 0, .null, .long 0, .int 0])), (b1, .inl (c0, 120, .inl (fun _ => nI 0))), (b2, .inl (c1, 120, .inl (fun _ => nI 0))), (b3, .inl (c2, 120, .inr (.inl (fun _ => 0)))), (b4, .inl (c3, 120, .inl (fun _ => tn_b false))), (b5, .inl (c4, 24, .inl (fun _ => nI 0))), (b6, .inl (c5, 420, .inr (.inl (fun _ => 0))))] := hD
  refine va_putF (D := (dC, dI)) (ci := 1) (v := .ref b6) (ty := .array .long) (C := RX1) (T := TX1) (N := 12) hx hb hts hin tyX1 tyX1_ok nmX1 hown hK hP hD hS 0 rfl rfl 9 (by decide) (hts (.fieldLink RX1 27 "TimeNetModel" "least" "[J") (by decide +kernel)) (fun _ h9 => h9) rfl hin2 rfl (by decide +kernel) rfl rfl (Nat.le_of_ble_eq_true rfl) dX1_init_50 (fun H locs hP hD hS => ?_)
  have hP : va_P (dC, dI) vwCl [(h, .inr (1, [.int 0, .int 0, .ref b1, .ref b2, .ref b3, .ref b4, .int 0, .ref b5, .long 0, .ref b6, .long 0, .int 0])), (b1, .inl (c0, 120, .inl (fun _ => nI 0))), (b2, .inl (c1, 120, .inl (fun _ => nI 0))), (b3, .inl (c2, 120, .inr (.inl (fun _ => 0)))), (b4, .inl (c3, 120, .inl (fun _ => tn_b false))), (b5, .inl (c4, 24, .inl (fun _ => nI 0))), (b6, .inl (c5, 420, .inr (.inl (fun _ => 0))))] H := hP
  have hD : va_D A [(h, .inr (1, [.int 0, .int 0, .ref b1, .ref b2, .ref b3, .ref b4, .int 0, .ref b5, .long 0, .ref b6, .long 0, .int 0])), (b1, .inl (c0, 120, .inl (fun _ => nI 0))), (b2, .inl (c1, 120, .inl (fun _ => nI 0))), (b3, .inl (c2, 120, .inr (.inl (fun _ => 0)))), (b4, .inl (c3, 120, .inl (fun _ => tn_b false))), (b5, .inl (c4, 24, .inl (fun _ => nI 0))), (b6, .inl (c5, 420, .inr (.inl (fun _ => 0))))] := hD
  have e1 := (tn_sameI hK (i := 0) (j := 1) rfl rfl).symm
  subst e1
  have e4 := (tn_sameI hK (i := 0) (j := 4) rfl rfl).symm
  subst e4
  have e5 := (tn_sameJ hK (i := 2) (j := 5) rfl rfl).symm
  subst e5
  have hK9 := hK.sub (tys' := tn_tys c0 c2 c3) [0, 2, 3] rfl
  refine W.widen (k := 6) (n := 924) (by decide) (by decide) ?_
  exact W.vret hx hb hr (fun t ht hW => ⟨⟨(), rfl, trivial, b1, b2, b3, b4, b5, b6, c0, c2, c3, by rw [ht]; exact hP, va_K.moved hW.alike hK9, hD⟩, hS.F ht⟩) hS.2.2 dX1_init_53
