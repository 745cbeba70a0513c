set_option maxHeartbeats 4000000 in
set_option maxRecDepth 100000 in
/-- isBad(i, j, cv) -/
theorem cX1_isBad_ok (l : Launch) (dC : Nat → ClassId) (dI : Nat → Nat → Nat) (h b1 b2 b3 b4 b5 b6 : Nat) (cI cL cZ : ClassId) (th cnt : Nat) (fp sp : Nat → Nat) (mo : Nat → Int64) (on : Nat → Bool) (rs : Nat) (rw : Nat → Nat) (rl : Int64) (le : Nat → Int64) (bl : Int64) (bs : Int32) (sz : Nat) (g : tn_good cnt fp sp mo) (ok : tn_ok (tn_E cnt fp sp mo on)) (i : Nat) (hi : i < 20) (j : Nat) (hj : j < 20) (cv : Int64) (hc1 : -1000000000000 ≤ cv.toInt) (hc2 : cv.toInt ≤ 1000000000000) : Met l yX1_isBad wsX1_isBad ({ frames := 2, cells := 0, slots := 0, locals := 49 }) (va_Pc [.ref h, .int (nI i), .int (nI j), .long cv] (tn_Pre dC dI (tn_tys cI cL cZ) (tm_ws h b1 b2 b3 b4 b5 b6 cI cL cZ th cnt fp sp mo on rs rw rl le bl bs) sz)) (va_Qi (S := ((Nat → Int64) × Int64 × Int32) × (Nat → Nat) × Nat × Int64) (fun r u => sp_ref (tn_E cnt fp sp mo on) i j cv.toInt r rw rs rl u.2.1 u.2.2.1 u.2.2.2) (fun u t => tn_at dC dI (tn_tys cI cL cZ) (va_A (tm_ws h b1 b2 b3 b4 b5 b6 cI cL cZ th cnt fp sp mo on rs rw rl le bl bs) sz) (tm_ws h b1 b2 b3 b4 b5 b6 cI cL cZ th cnt fp sp mo on u.2.2.1 u.2.1 u.2.2.2 u.1.1 u.1.2.1 u.1.2.2) t) (va_A (tm_ws h b1 b2 b3 b4 b5 b6 cI cL cZ th cnt fp sp mo on rs rw rl le bl bs) sz)) 0 0 (va_A (tm_ws h b1 b2 b3 b4 b5 b6 cI cL cZ th cnt fp sp mo on rs rw rl le bl bs) sz) := by
  refine Met.ofW (cc := cX1_isBad) (maxL := 5) (ret := (some .boolean)) (by decide) rfl ?_
  intro p e s m args below meth c s₁ B hml hv
  obtain ⟨rfl, hsz, hP, hK, hD0⟩ := hv
  have hx := B.exec
  have hb := B.bytes
  have hr := B.returns
  have hts := atoms_spec (ws := wsX1_isBad) B.pre
  have hown : s.vm.findClass RX1 = some m.cls := findClass_of_methodNamed B.named
  have hlocks := B.notSynchronized
  subst hsz
  have hD := hD0.self (sz := s.heap.size)
  generalize hAe : va_A (tm_ws h b1 b2 b3 b4 b5 b6 cI cL cZ th cnt fp sp mo on rs rw rl le bl bs) s.heap.size = A at hD ⊢
  have hA : ∀ q : Nat, s.heap.size ≤ q → A q := fun q h => by rw [← hAe]; exact Or.inr h
  have hS : va_S A s.heap s.heap [] := va_S.rf
  have hl := lv_entry ([.ref h, .int (nI i), .int (nI j), .long cv]) (n := 5) (Nat.le_of_ble_eq_true rfl)
  rw [lg_entry_eq]
  generalize (lg_sl ([.ref h, .int (nI i), .int (nI j), .long cv]) ++ List.replicate (5 - (lg_sl ([.ref h, .int (nI i), .int (nI j), .long cv])).length) Slot.unset).toArray = ls at hl ⊢
  have hl : lv_has ls 5 [(0, .ref h), (1, .int (nI i)), (2, .int (nI j)), (3, .long cv)] := hl
  have kf42 := hts (.fieldLink RX1 42 "TimeNetModel" "bestLength" "J") (by decide +kernel)
  have kf24 := hts (.fieldLink RX1 24 "TimeNetModel" "row" "[I") (by decide +kernel)
  have kf50 := hts (.fieldLink RX1 50 "TimeNetModel" "rowSize" "I") (by decide +kernel)
  have kf61 := hts (.fieldLink RX1 61 "TimeNetModel" "rowLength" "J") (by decide +kernel)
  have hin : ∀ w ∈ u_ws RX1 TX1 12, w ∈ wsX1_isBad := by decide +kernel
  have hc := g.1
  refine lv_aload_n hx hb dX1_isBad_0 rfl (lv_at hl 0 rfl) ?_
  refine lv_iload_n hx hb dX1_isBad_1 rfl (lv_at hl 2 rfl) ?_
  refine lv_iload_n hx hb dX1_isBad_2 rfl (lv_at hl 1 rfl) ?_
  have hF := tn_freeA hD hS hA
  refine va_calli (va_runV (As := [.int (nI j), .int (nI i)]) (rest := []) ⟨hx, hb, hml, hown, hts⟩ (cX1_best_ok l dC dI h b1 b2 b3 b4 b5 b6 cI cL cZ th cnt fp sp mo on rs rw rl le bl bs s.heap.size g ok j hj i hi) (cwV 2 hts gX1_isBad_X1_best rfl rfl rfl (by decide +kernel) ⟨Nat.le_of_ble_eq_true rfl, Nat.le_of_ble_eq_true rfl⟩) (tn_preV hK hP hD (ci := 1) rfl 0 rfl) rfl rfl hl.1 rfl (lv_room (Nat.le_of_ble_eq_true rfl)) dX1_isBad_3 ⟨Nat.le_of_ble_eq_true rfl, Nat.le_of_ble_eq_true rfl⟩) hS (fun q _ h => hF q h) hF (fun r_3 u_3 t H1 locs ht hvm hw_3 hB hz1 hk1 hS => ?_)
  obtain ⟨hP1, -, hD1⟩ := hB
  rw [ht] at hP1
  have hD := hD1.weaken (fun _ q _ hq => hF q.1 hq)
  clear hP hk1 hF hz1 ht hvm hD1
  generalize H1 = H at hP1 hS ⊢
  have hP := hP1
  clear hP1
  refine lv_if_eq (tgt := 20) hx hb dX1_isBad_6 (by decide) (fun c_6 => ?_) (fun c_6 => ?_)
  · skip
    have hz : r_3 = nI 0 := c_6
    refine lv_iconst (v := nI 0) hx hb dX1_isBad_20 (by decide) ?_
    exact W.zret (v := nI 0) hx hb hr rfl (fun t ht hW => ⟨⟨nI 0, ((u_3.1, u_3.2.1, u_3.2.2), rw, rs, rl), rfl, Or.inr ⟨tm_ref_no (tn_E_bd g) hc1 hc2 hw_3 (Or.inl hz), rfl, rfl, rfl, rfl⟩, by rw [ht]; exact hP, va_K.moved hW.alike hK, hD⟩, hS.F ht⟩) hS.2.2 dX1_isBad_21
  · skip
    have hz : r_3 = nI 1 := by
      rcases hw_3.2 with ⟨q, _⟩ | ⟨q, _⟩
      · exact absurd (q : r_3 = 0) c_6
      · exact q
    obtain ⟨n0, hn0, hbs, hbl, hbx, hbe⟩ : ∃ n, n ≤ 19 ∧ u_3.2.2 = nI n ∧ u_3.2.1 = u_3.1 (20 * n + j) ∧ u_3.2.1 ≠ tn_MX ∧ tn_best (tn_E cnt fp sp mo on) j i u_3.2.1.toInt n := by
      rcases hw_3.2 with ⟨q, _⟩ | ⟨_, q⟩
      · exact absurd (q : r_3 = 0) c_6
      · exact q
    refine lv_lload_n hx hb dX1_isBad_9 rfl (lv_at hl 3 rfl) ?_
    refine lv_aload_n hx hb dX1_isBad_10 rfl (lv_at hl 0 rfl) ?_
    refine va_get (D := (dC, dI)) (ci := 1) (v := .long u_3.2.1) (C := RX1) (T := TX1) (N := 12) hx hb hts hin hown hK hP 0 rfl rfl 10 (by decide) kf42 (fun _ h9 => h9) rfl dX1_isBad_11 ?_
    refine lv_ladd hx hb dX1_isBad_14 ?_
    refine lv_lconst (v := 0) hx hb dX1_isBad_15 (by decide) ?_
    refine tn_lc_lt (x := (cv + u_3.2.1)) (y := 0) (tgt := 22) hx hb dX1_isBad_16 dX1_isBad_17 (by decide) (fun c_16 => ?_) (fun c_16 => ?_)
    · skip
      refine lv_aload_n hx hb dX1_isBad_22 rfl (lv_at hl 0 rfl) ?_
      refine va_get (D := (dC, dI)) (ci := 1) (v := .ref b5) (C := RX1) (T := TX1) (N := 12) hx hb hts hin hown hK hP 0 rfl rfl 7 (by decide) kf24 (fun _ h9 => h9) rfl dX1_isBad_23 ?_
      refine lv_iconst (v := nI 0) hx hb dX1_isBad_26 (by decide) ?_
      refine lv_iload_n hx hb dX1_isBad_27 rfl (lv_at hl 1 rfl) ?_
      refine tn_iast (i := 0) (f' := (fun zz => nI (va_up rw 0 i zz))) hx hb hK hP hD hS 5 0 rfl rfl (by omega) (by decide) (tn_updN rw 0 i) dX1_isBad_28 (fun H locs hP hD hS => ?_)
      have hP : va_P (dC, dI) vwCl (tm_ws h b1 b2 b3 b4 b5 b6 cI cL cZ th cnt fp sp mo on rs (va_up rw 0 i) rl u_3.1 u_3.2.1 u_3.2.2) H := hP
      have hD : va_D A (tm_ws h b1 b2 b3 b4 b5 b6 cI cL cZ th cnt fp sp mo on rs (va_up rw 0 i) rl u_3.1 u_3.2.1 u_3.2.2) := hD
      refine lv_aload_n hx hb dX1_isBad_29 rfl (lv_at hl 0 rfl) ?_
      refine va_get (D := (dC, dI)) (ci := 1) (v := .ref b5) (C := RX1) (T := TX1) (N := 12) hx hb hts hin hown hK hP 0 rfl rfl 7 (by decide) kf24 (fun _ h9 => h9) rfl dX1_isBad_30 ?_
      refine lv_iconst (v := nI 1) hx hb dX1_isBad_33 (by decide) ?_
      refine lv_iload_n hx hb dX1_isBad_34 rfl (lv_at hl 2 rfl) ?_
      refine tn_iast (i := 1) (f' := (fun zz => nI (va_up (va_up rw 0 i) 1 j zz))) hx hb hK hP hD hS 5 0 rfl rfl (by omega) (by decide) (tn_updN (va_up rw 0 i) 1 j) dX1_isBad_35 (fun H locs hP hD hS => ?_)
      have hP : va_P (dC, dI) vwCl (tm_ws h b1 b2 b3 b4 b5 b6 cI cL cZ th cnt fp sp mo on rs (va_up (va_up rw 0 i) 1 j) rl u_3.1 u_3.2.1 u_3.2.2) H := hP
      have hD : va_D A (tm_ws h b1 b2 b3 b4 b5 b6 cI cL cZ th cnt fp sp mo on rs (va_up (va_up rw 0 i) 1 j) rl u_3.1 u_3.2.1 u_3.2.2) := hD
      refine lv_aload_n hx hb dX1_isBad_36 rfl (lv_at hl 0 rfl) ?_
      refine lv_iconst (v := nI 2) hx hb dX1_isBad_37 (by decide) ?_
      refine va_put (D := (dC, dI)) (ci := 1) (v := .int (nI 2)) (ty := .int) (C := RX1) (T := TX1) (N := 12) hx hb hts hin tyX1 tyX1_ok nmX1 hown hK hP hD hS 0 rfl rfl 6 (by decide) kf50 (fun _ h9 => h9) rfl (by decide +kernel) rfl rfl (Nat.le_of_ble_eq_true rfl) dX1_isBad_38 (fun H locs hP hD hS => ?_)
      have hP : va_P (dC, dI) vwCl (tm_ws h b1 b2 b3 b4 b5 b6 cI cL cZ th cnt fp sp mo on 2 (va_up (va_up rw 0 i) 1 j) rl u_3.1 u_3.2.1 u_3.2.2) H := hP
      have hD : va_D A (tm_ws h b1 b2 b3 b4 b5 b6 cI cL cZ th cnt fp sp mo on 2 (va_up (va_up rw 0 i) 1 j) rl u_3.1 u_3.2.1 u_3.2.2) := hD
      refine lv_aload_n hx hb dX1_isBad_41 rfl (lv_at hl 0 rfl) ?_
      refine lv_iload_n hx hb dX1_isBad_42 rfl (lv_at hl 2 rfl) ?_
      have hF := tn_freeA hD hS hA
      refine va_callv (va_runV (As := [.int (nI j)]) (rest := []) ⟨hx, hb, hml, hown, hts⟩ (cX1_walk_ok l dC dI h b1 b2 b3 b4 b5 b6 cI cL cZ th cnt fp sp mo on 2 (va_up (va_up rw 0 i) 1 j) rl u_3.1 u_3.2.1 u_3.2.2 H.size g j hj i 1 n0 rfl (by simp [va_up]) hn0 hbs hw_3.1 (hbl ▸ hbx) (hbl ▸ hbe) (by omega)) (cwV 1 hts gX1_isBad_X1_walk rfl rfl rfl (by decide +kernel) ⟨Nat.le_of_ble_eq_true rfl, Nat.le_of_ble_eq_true rfl⟩) (tn_preV hK hP hD (ci := 1) rfl 0 rfl) rfl rfl hl.1 rfl (lv_room (Nat.le_of_ble_eq_true rfl)) dX1_isBad_43 ⟨Nat.le_of_ble_eq_true rfl, Nat.le_of_ble_eq_true rfl⟩) hS (fun q _ h => hF q h) hF (fun u_43 t H1 locs ht hvm hw_43 hB hz1 hk1 hS => ?_)
      obtain ⟨hP1, -, hD1⟩ := hB
      rw [ht] at hP1
      have hD := hD1.weaken (fun _ q _ hq => hF q.1 hq)
      clear hP hk1 hF hz1 ht hvm hD1
      generalize H1 = H at hP1 hS ⊢
      have hP := hP1
      clear hP1
      refine lv_aload_n hx hb dX1_isBad_46 rfl (lv_at hl 0 rfl) ?_
      refine lv_lload_n hx hb dX1_isBad_47 rfl (lv_at hl 3 rfl) ?_
      refine lv_aload_n hx hb dX1_isBad_48 rfl (lv_at hl 0 rfl) ?_
      refine va_get (D := (dC, dI)) (ci := 1) (v := .long u_3.2.1) (C := RX1) (T := TX1) (N := 12) hx hb hts hin hown hK hP 0 rfl rfl 10 (by decide) kf42 (fun _ h9 => h9) rfl dX1_isBad_49 ?_
      refine lv_ladd hx hb dX1_isBad_52 ?_
      refine va_put (D := (dC, dI)) (ci := 1) (v := .long (cv + u_3.2.1)) (ty := .long) (C := RX1) (T := TX1) (N := 12) hx hb hts hin tyX1 tyX1_ok nmX1 hown hK hP hD hS 0 rfl rfl 8 (by decide) kf61 (fun _ h9 => h9) rfl (by decide +kernel) rfl rfl (Nat.le_of_ble_eq_true rfl) dX1_isBad_53 (fun H locs hP hD hS => ?_)
      have hP : va_P (dC, dI) vwCl (tm_ws h b1 b2 b3 b4 b5 b6 cI cL cZ th cnt fp sp mo on u_43.2 u_43.1 (cv + u_3.2.1) u_3.1 u_3.2.1 u_3.2.2) H := hP
      have hD : va_D A (tm_ws h b1 b2 b3 b4 b5 b6 cI cL cZ th cnt fp sp mo on u_43.2 u_43.1 (cv + u_3.2.1) u_3.1 u_3.2.1 u_3.2.2) := hD
      refine lv_iconst (v := nI 1) hx hb dX1_isBad_56 (by decide) ?_
      exact W.zret (v := nI 1) hx hb hr rfl (fun t ht hW => ⟨⟨nI 1, ((u_3.1, u_3.2.1, u_3.2.2), u_43.1, u_43.2, cv + u_3.2.1), rfl, tm_ref_yes (tn_E_bd g) hc1 hc2 hn0 hbe c_16 rw rs rl hw_43.1 hw_43.2.1 ((hw_43.2.2 0 (by omega)).trans (by simp [va_up])), by rw [ht]; exact hP, va_K.moved hW.alike hK, hD⟩, hS.F ht⟩) hS.2.2 dX1_isBad_57
    · skip
      refine lv_iconst (v := nI 0) hx hb dX1_isBad_20 (by decide) ?_
      exact W.zret (v := nI 0) hx hb hr rfl (fun t ht hW => ⟨⟨nI 0, ((u_3.1, u_3.2.1, u_3.2.2), rw, rs, rl), rfl, Or.inr ⟨tm_ref_no (tn_E_bd g) hc1 hc2 hw_3 (Or.inr ⟨hz, c_16⟩), rfl, rfl, rfl, rfl⟩, by rw [ht]; exact hP, va_K.moved hW.alike hK, hD⟩, hS.F ht⟩) hS.2.2 dX1_isBad_21
set_option maxHeartbeats 4000000 in
set_option maxRecDepth 100000 in
/-- add(x, y, cv) -/
theorem cX1_add_ok (l : Launch) (dC : Nat → ClassId) (dI : Nat → Nat → Nat) (h b1 b2 b3 b4 b5 b6 : Nat) (cI cL cZ : ClassId) (th cnt : Nat) (fp sp : Nat → Nat) (mo : Nat → Int64) (on : Nat → Bool) (rs : Nat) (rw : Nat → Nat) (rl : Int64) (le : Nat → Int64) (bl : Int64) (bs : Int32) (sz : Nat) (g : tn_good cnt fp sp mo) (ok : tn_ok (tn_E cnt fp sp mo on)) (x y : Int32) (cv : Int64) : Met l yX1_add wsX1_add ({ frames := 3, cells := 0, slots := 0, locals := 73 }) (va_Pc [.ref h, .int x, .int y, .long cv] (tn_Pre dC dI (tn_tys cI cL cZ) (tm_ws h b1 b2 b3 b4 b5 b6 cI cL cZ th cnt fp sp mo on rs rw rl le bl bs) sz)) (va_Qi (S := ((Nat → Int64) × Int64 × Int32) × Nat × (Nat → Nat) × (Nat → Nat) × (Nat → Int64) × (Nat → Bool) × (Nat → Nat) × Nat × Int64) (fun r u => sp_add cnt fp sp mo on x y cv r rw rs rl u.2.1 u.2.2.1 u.2.2.2.1 u.2.2.2.2.1 u.2.2.2.2.2.1 u.2.2.2.2.2.2.1 u.2.2.2.2.2.2.2.1 u.2.2.2.2.2.2.2.2) (fun u t => tn_at dC dI (tn_tys cI cL cZ) (va_A (tm_ws h b1 b2 b3 b4 b5 b6 cI cL cZ th cnt fp sp mo on rs rw rl le bl bs) sz) (tm_ws h b1 b2 b3 b4 b5 b6 cI cL cZ 0 u.2.1 u.2.2.1 u.2.2.2.1 u.2.2.2.2.1 u.2.2.2.2.2.1 u.2.2.2.2.2.2.2.1 u.2.2.2.2.2.2.1 u.2.2.2.2.2.2.2.2 u.1.1 u.1.2.1 u.1.2.2) t) (va_A (tm_ws h b1 b2 b3 b4 b5 b6 cI cL cZ th cnt fp sp mo on rs rw rl le bl bs) sz)) 0 0 (va_A (tm_ws h b1 b2 b3 b4 b5 b6 cI cL cZ th cnt fp sp mo on rs rw rl le bl bs) sz) := by
  refine Met.ofW (cc := cX1_add) (maxL := 5) (ret := (some .int)) (by decide) rfl ?_
  intro p e s m args below meth c s₁ B hml hv
  obtain ⟨rfl, hsz, hP, hK, hD0⟩ := hv
  have hx := B.exec
  have hb := B.bytes
  have hr := B.returns
  have hts := atoms_spec (ws := wsX1_add) B.pre
  have hown : s.vm.findClass RX1 = some m.cls := findClass_of_methodNamed B.named
  have hlocks := B.notSynchronized
  subst hsz
  have hD := hD0.self (sz := s.heap.size)
  generalize hAe : va_A (tm_ws h b1 b2 b3 b4 b5 b6 cI cL cZ th cnt fp sp mo on rs rw rl le bl bs) s.heap.size = A at hD ⊢
  have hA : ∀ q : Nat, s.heap.size ≤ q → A q := fun q h => by rw [← hAe]; exact Or.inr h
  have hS : va_S A s.heap s.heap [] := va_S.rf
  have hl := lv_entry ([.ref h, .int x, .int y, .long cv]) (n := 5) (Nat.le_of_ble_eq_true rfl)
  rw [lg_entry_eq]
  generalize (lg_sl ([.ref h, .int x, .int y, .long cv]) ++ List.replicate (5 - (lg_sl ([.ref h, .int x, .int y, .long cv])).length) Slot.unset).toArray = ls at hl ⊢
  have hl : lv_has ls 5 [(0, .ref h), (1, .int x), (2, .int y), (3, .long cv)] := hl
  have kf30 := hts (.fieldLink RX1 30 "TimeNetModel" "thrown" "I") (by decide +kernel)
  have kc68 := hts (.constantLong RX1 68 (-1000000000000)) (by decide +kernel)
  have kc70 := hts (.constantLong RX1 70 (1000000000000)) (by decide +kernel)
  have kf34 := hts (.fieldLink RX1 34 "TimeNetModel" "size" "I") (by decide +kernel)
  have kf7 := hts (.fieldLink RX1 7 "TimeNetModel" "first" "[I") (by decide +kernel)
  have kf13 := hts (.fieldLink RX1 13 "TimeNetModel" "second" "[I") (by decide +kernel)
  have kf16 := hts (.fieldLink RX1 16 "TimeNetModel" "c" "[J") (by decide +kernel)
  have kf20 := hts (.fieldLink RX1 20 "TimeNetModel" "isOn" "[Z") (by decide +kernel)
  have hin : ∀ w ∈ u_ws RX1 TX1 12, w ∈ wsX1_add := by decide +kernel
  have hc := g.1
  refine lv_aload_n hx hb dX1_add_0 rfl (lv_at hl 0 rfl) ?_
  refine lv_iconst (v := nI 0) hx hb dX1_add_1 (by decide) ?_
  refine va_put (D := (dC, dI)) (ci := 1) (v := .int (nI 0)) (ty := .int) (C := RX1) (T := TX1) (N := 12) hx hb hts hin tyX1 tyX1_ok nmX1 hown hK hP hD hS 0 rfl rfl 0 (by decide) kf30 (fun _ h9 => h9) rfl (by decide +kernel) rfl rfl (Nat.le_of_ble_eq_true rfl) dX1_add_2 (fun H locs hP hD hS => ?_)
  have hP : va_P (dC, dI) vwCl (tm_ws h b1 b2 b3 b4 b5 b6 cI cL cZ 0 cnt fp sp mo on rs rw rl le bl bs) H := hP
  have hD : va_D A (tm_ws h b1 b2 b3 b4 b5 b6 cI cL cZ 0 cnt fp sp mo on rs rw rl le bl bs) := hD
  refine lv_iload_n hx hb dX1_add_5 rfl (lv_at hl 1 rfl) ?_
  have hF := tn_freeA hD hS hA
  refine va_calli (va_runS (As := [.int x]) (rest := []) ⟨hx, hb, hml, hown, hts⟩ (cX1_isPoint_ok l dC dI h b1 b2 b3 b4 b5 b6 cI cL cZ 0 cnt fp sp mo on rs rw rl le bl bs H.size x) (va_cwS 1 hts gX1_add_X1_isPoint rfl rfl rfl (by decide +kernel) ⟨Nat.le_of_ble_eq_true rfl, Nat.le_of_ble_eq_true rfl⟩) (tn_preS hK hP hD) rfl rfl hl.1 rfl (lv_room (Nat.le_of_ble_eq_true rfl)) dX1_add_6 ⟨Nat.le_of_ble_eq_true rfl, Nat.le_of_ble_eq_true rfl⟩) hS (fun q _ h => hF q h) hF (fun r_6 u_6 t H1 locs ht hvm hw_6 hB hz1 hk1 hS => ?_)
  obtain ⟨hP1, -, hD1⟩ := hB
  rw [ht] at hP1
  have hD := hD1.weaken (fun _ q _ hq => hF q.1 hq)
  clear hP hk1 hF hz1 ht hvm hD1
  generalize H1 = H at hP1 hS ⊢
  have hP := hP1
  clear hP1
  refine lv_if_eq (tgt := 49) hx hb dX1_add_9 (by decide) (fun c_9 => ?_) (fun c_9 => ?_)
  · skip
    have hn_6 : ∀ j, j < 20 → x ≠ nI j := by
      rcases hw_6 with ⟨q, _⟩ | ⟨_, q⟩
      · exact absurd (q ▸ c_9 : nI 1 = 0) (by decide)
      · exact q
    refine lv_iconst (v := (-1)) hx hb dX1_add_49 (by decide) ?_
    exact W.iret (v := (-1)) hx hb hr (fun t ht hW => ⟨⟨(-1), ((le, bl, bs), cnt, fp, sp, mo, on, rw, rs, rl), rfl, Or.inr ⟨fun _ a b h1 h2 h3 h4 h5 h6 h7 => absurd h4 (hn_6 a h1), rfl, rfl, rfl, rfl, rfl, rfl, rfl, rfl, rfl⟩, by rw [ht]; exact hP, va_K.moved hW.alike hK, hD⟩, hS.F ht⟩) hS.2.2 dX1_add_50
  · skip
    obtain ⟨a, ha, ea⟩ : ∃ j, j < 20 ∧ x = nI j := by
      rcases hw_6 with ⟨_, q⟩ | ⟨q, _⟩
      · exact q
      · exact absurd (q : r_6 = 0) c_9
    subst ea
    refine lv_iload_n hx hb dX1_add_12 rfl (lv_at hl 2 rfl) ?_
    have hF := tn_freeA hD hS hA
    refine va_calli (va_runS (As := [.int y]) (rest := []) ⟨hx, hb, hml, hown, hts⟩ (cX1_isPoint_ok l dC dI h b1 b2 b3 b4 b5 b6 cI cL cZ 0 cnt fp sp mo on rs rw rl le bl bs H.size y) (va_cwS 1 hts gX1_add_X1_isPoint rfl rfl rfl (by decide +kernel) ⟨Nat.le_of_ble_eq_true rfl, Nat.le_of_ble_eq_true rfl⟩) (tn_preS hK hP hD) rfl rfl hl.1 rfl (lv_room (Nat.le_of_ble_eq_true rfl)) dX1_add_13 ⟨Nat.le_of_ble_eq_true rfl, Nat.le_of_ble_eq_true rfl⟩) hS (fun q _ h => hF q h) hF (fun r_13 u_13 t H1 locs ht hvm hw_13 hB hz1 hk1 hS => ?_)
    obtain ⟨hP1, -, hD1⟩ := hB
    rw [ht] at hP1
    have hD := hD1.weaken (fun _ q _ hq => hF q.1 hq)
    clear hP hk1 hF hz1 ht hvm hD1
    generalize H1 = H at hP1 hS ⊢
    have hP := hP1
    clear hP1
    refine lv_if_eq (tgt := 49) hx hb dX1_add_16 (by decide) (fun c_16 => ?_) (fun c_16 => ?_)
    · skip
      have hn_13 : ∀ j, j < 20 → y ≠ nI j := by
        rcases hw_13 with ⟨q, _⟩ | ⟨_, q⟩
        · exact absurd (q ▸ c_16 : nI 1 = 0) (by decide)
        · exact q
      refine lv_iconst (v := (-1)) hx hb dX1_add_49 (by decide) ?_
      exact W.iret (v := (-1)) hx hb hr (fun t ht hW => ⟨⟨(-1), ((le, bl, bs), cnt, fp, sp, mo, on, rw, rs, rl), rfl, Or.inr ⟨fun _ a2 b h1 h2 h3 h4 h5 h6 h7 => absurd h5 (hn_13 b h2), rfl, rfl, rfl, rfl, rfl, rfl, rfl, rfl, rfl⟩, by rw [ht]; exact hP, va_K.moved hW.alike hK, hD⟩, hS.F ht⟩) hS.2.2 dX1_add_50
    · skip
      obtain ⟨b, hb2, eb⟩ : ∃ j, j < 20 ∧ y = nI j := by
        rcases hw_13 with ⟨_, q⟩ | ⟨q, _⟩
        · exact q
        · exact absurd (q : r_13 = 0) c_16
      subst eb
      refine lv_iload_n hx hb dX1_add_19 rfl (lv_at hl 1 rfl) ?_
      refine lv_iload_n hx hb dX1_add_20 rfl (lv_at hl 2 rfl) ?_
      refine lv_icmp_eq (tgt := 49) hx hb dX1_add_21 (by decide) (fun c_21 => ?_) (fun c_21 => ?_)
      · skip
        refine lv_iconst (v := (-1)) hx hb dX1_add_49 (by decide) ?_
        exact W.iret (v := (-1)) hx hb hr (fun t ht hW => ⟨⟨(-1), ((le, bl, bs), cnt, fp, sp, mo, on, rw, rs, rl), rfl, Or.inr ⟨fun _ a2 b2 h1 h2 h3 h4 h5 h6 h7 => h3 ((nI_eq (by omega) (by omega)).mp (h4.symm.trans (c_21.trans h5))), rfl, rfl, rfl, rfl, rfl, rfl, rfl, rfl, rfl⟩, by rw [ht]; exact hP, va_K.moved hW.alike hK, hD⟩, hS.F ht⟩) hS.2.2 dX1_add_50
      · skip
        have hab : a ≠ b := fun q => c_21 (by rw [q])
        refine lv_lload_n hx hb dX1_add_24 rfl (lv_at hl 3 rfl) ?_
        refine lv_ldc2 (v := (-1000000000000)) hx hb hown kc68 dX1_add_25 ?_
        refine tn_lc_lt (x := cv) (y := (-1000000000000)) (tgt := 49) hx hb dX1_add_28 dX1_add_29 (by decide) (fun c_28 => ?_) (fun c_28 => ?_)
        · skip
          refine lv_iconst (v := (-1)) hx hb dX1_add_49 (by decide) ?_
          exact W.iret (v := (-1)) hx hb hr (fun t ht hW => ⟨⟨(-1), ((le, bl, bs), cnt, fp, sp, mo, on, rw, rs, rl), rfl, Or.inr ⟨fun _ a2 b2 h1 h2 h3 h4 h5 h6 h7 => tn_lim_lo c_28 h6, rfl, rfl, rfl, rfl, rfl, rfl, rfl, rfl, rfl⟩, by rw [ht]; exact hP, va_K.moved hW.alike hK, hD⟩, hS.F ht⟩) hS.2.2 dX1_add_50
        · skip
          refine lv_lload_n hx hb dX1_add_32 rfl (lv_at hl 3 rfl) ?_
          refine lv_ldc2 (v := 1000000000000) hx hb hown kc70 dX1_add_33 ?_
          refine tn_lc_gt (x := cv) (y := 1000000000000) (tgt := 49) hx hb dX1_add_36 dX1_add_37 (by decide) (fun c_36 => ?_) (fun c_36 => ?_)
          · skip
            refine lv_iconst (v := (-1)) hx hb dX1_add_49 (by decide) ?_
            exact W.iret (v := (-1)) hx hb hr (fun t ht hW => ⟨⟨(-1), ((le, bl, bs), cnt, fp, sp, mo, on, rw, rs, rl), rfl, Or.inr ⟨fun _ a2 b2 h1 h2 h3 h4 h5 h6 h7 => tn_lim_hi c_36 h7, rfl, rfl, rfl, rfl, rfl, rfl, rfl, rfl, rfl⟩, by rw [ht]; exact hP, va_K.moved hW.alike hK, hD⟩, hS.F ht⟩) hS.2.2 dX1_add_50
          · skip
            obtain ⟨hc1, hc2⟩ := tn_lim c_28 c_36
            refine lv_aload_n hx hb dX1_add_40 rfl (lv_at hl 0 rfl) ?_
            refine va_get (D := (dC, dI)) (ci := 1) (v := .int (nI cnt)) (C := RX1) (T := TX1) (N := 12) hx hb hts hin hown hK hP 0 rfl rfl 1 (by decide) kf34 (fun _ h9 => h9) rfl dX1_add_41 ?_
            refine lv_bipush (v := nI 120) hx hb dX1_add_44 (by decide) ?_
            refine lv_icmp_ne (tgt := 51) hx hb dX1_add_46 (by decide) (fun c_46 => ?_) (fun c_46 => ?_)
            · skip
              have hfull : cnt < 120 := by
                have : cnt ≠ 120 := fun q => c_46 (by rw [q])
                omega
              refine lv_aload_n hx hb dX1_add_51 rfl (lv_at hl 0 rfl) ?_
              refine lv_iload_n hx hb dX1_add_52 rfl (lv_at hl 1 rfl) ?_
              refine lv_iload_n hx hb dX1_add_53 rfl (lv_at hl 2 rfl) ?_
              refine lv_lload_n hx hb dX1_add_54 rfl (lv_at hl 3 rfl) ?_
              have hF := tn_freeA hD hS hA
              refine va_calli (va_runV (As := [.int (nI a), .int (nI b), .long cv]) (rest := []) ⟨hx, hb, hml, hown, hts⟩ (cX1_isBad_ok l dC dI h b1 b2 b3 b4 b5 b6 cI cL cZ 0 cnt fp sp mo on rs rw rl le bl bs H.size g ok a ha b hb2 cv hc1 hc2) (cwV 3 hts gX1_add_X1_isBad rfl rfl rfl (by decide +kernel) ⟨Nat.le_of_ble_eq_true rfl, Nat.le_of_ble_eq_true rfl⟩) (tn_preV hK hP hD (ci := 1) rfl 0 rfl) rfl rfl hl.1 rfl (lv_room (Nat.le_of_ble_eq_true rfl)) dX1_add_55 ⟨Nat.le_of_ble_eq_true rfl, Nat.le_of_ble_eq_true rfl⟩) hS (fun q _ h => hF q h) hF (fun r_55 u_55 t H1 locs ht hvm hw_55 hB hz1 hk1 hS => ?_)
              obtain ⟨hP1, -, hD1⟩ := hB
              rw [ht] at hP1
              have hD := hD1.weaken (fun _ q _ hq => hF q.1 hq)
              clear hP hk1 hF hz1 ht hvm hD1
              generalize H1 = H at hP1 hS ⊢
              have hP := hP1
              clear hP1
              refine lv_if_eq (tgt := 64) hx hb dX1_add_58 (by decide) (fun c_58 => ?_) (fun c_58 => ?_)
              · skip
                have hr0 : r_55 = nI 0 := c_58
                refine lv_aload_n hx hb dX1_add_64 rfl (lv_at hl 0 rfl) ?_
                refine va_get (D := (dC, dI)) (ci := 1) (v := .ref b1) (C := RX1) (T := TX1) (N := 12) hx hb hts hin hown hK hP 0 rfl rfl 2 (by decide) kf7 (fun _ h9 => h9) rfl dX1_add_65 ?_
                refine lv_aload_n hx hb dX1_add_68 rfl (lv_at hl 0 rfl) ?_
                refine va_get (D := (dC, dI)) (ci := 1) (v := .int (nI cnt)) (C := RX1) (T := TX1) (N := 12) hx hb hts hin hown hK hP 0 rfl rfl 1 (by decide) kf34 (fun _ h9 => h9) rfl dX1_add_69 ?_
                refine lv_iload_n hx hb dX1_add_72 rfl (lv_at hl 1 rfl) ?_
                refine tn_iast (i := cnt) (f' := (fun zz => nI (va_up fp cnt a zz))) hx hb hK hP hD hS 1 0 rfl rfl (by omega) (by decide) (tn_updN fp cnt a) dX1_add_73 (fun H locs hP hD hS => ?_)
                have hP : va_P (dC, dI) vwCl (tm_ws h b1 b2 b3 b4 b5 b6 cI cL cZ 0 cnt (va_up fp cnt a) sp mo on u_55.2.2.1 u_55.2.1 u_55.2.2.2 u_55.1.1 u_55.1.2.1 u_55.1.2.2) H := hP
                have hD : va_D A (tm_ws h b1 b2 b3 b4 b5 b6 cI cL cZ 0 cnt (va_up fp cnt a) sp mo on u_55.2.2.1 u_55.2.1 u_55.2.2.2 u_55.1.1 u_55.1.2.1 u_55.1.2.2) := hD
                refine lv_aload_n hx hb dX1_add_74 rfl (lv_at hl 0 rfl) ?_
                refine va_get (D := (dC, dI)) (ci := 1) (v := .ref b2) (C := RX1) (T := TX1) (N := 12) hx hb hts hin hown hK hP 0 rfl rfl 3 (by decide) kf13 (fun _ h9 => h9) rfl dX1_add_75 ?_
                refine lv_aload_n hx hb dX1_add_78 rfl (lv_at hl 0 rfl) ?_
                refine va_get (D := (dC, dI)) (ci := 1) (v := .int (nI cnt)) (C := RX1) (T := TX1) (N := 12) hx hb hts hin hown hK hP 0 rfl rfl 1 (by decide) kf34 (fun _ h9 => h9) rfl dX1_add_79 ?_
                refine lv_iload_n hx hb dX1_add_82 rfl (lv_at hl 2 rfl) ?_
                refine tn_iast (i := cnt) (f' := (fun zz => nI (va_up sp cnt b zz))) hx hb hK hP hD hS 2 0 rfl rfl (by omega) (by decide) (tn_updN sp cnt b) dX1_add_83 (fun H locs hP hD hS => ?_)
                have hP : va_P (dC, dI) vwCl (tm_ws h b1 b2 b3 b4 b5 b6 cI cL cZ 0 cnt (va_up fp cnt a) (va_up sp cnt b) mo on u_55.2.2.1 u_55.2.1 u_55.2.2.2 u_55.1.1 u_55.1.2.1 u_55.1.2.2) H := hP
                have hD : va_D A (tm_ws h b1 b2 b3 b4 b5 b6 cI cL cZ 0 cnt (va_up fp cnt a) (va_up sp cnt b) mo on u_55.2.2.1 u_55.2.1 u_55.2.2.2 u_55.1.1 u_55.1.2.1 u_55.1.2.2) := hD
                refine lv_aload_n hx hb dX1_add_84 rfl (lv_at hl 0 rfl) ?_
                refine va_get (D := (dC, dI)) (ci := 1) (v := .ref b3) (C := RX1) (T := TX1) (N := 12) hx hb hts hin hown hK hP 0 rfl rfl 4 (by decide) kf16 (fun _ h9 => h9) rfl dX1_add_85 ?_
                refine lv_aload_n hx hb dX1_add_88 rfl (lv_at hl 0 rfl) ?_
                refine va_get (D := (dC, dI)) (ci := 1) (v := .int (nI cnt)) (C := RX1) (T := TX1) (N := 12) hx hb hts hin hown hK hP 0 rfl rfl 1 (by decide) kf34 (fun _ h9 => h9) rfl dX1_add_89 ?_
                refine lv_lload_n hx hb dX1_add_92 rfl (lv_at hl 3 rfl) ?_
                refine tn_last (i := cnt) (f' := (vp_updL mo cnt cv)) hx hb hK hP hD hS 3 1 rfl rfl (by omega) (by decide) rfl dX1_add_93 (fun H locs hP hD hS => ?_)
                have hP : va_P (dC, dI) vwCl (tm_ws h b1 b2 b3 b4 b5 b6 cI cL cZ 0 cnt (va_up fp cnt a) (va_up sp cnt b) (vp_updL mo cnt cv) on u_55.2.2.1 u_55.2.1 u_55.2.2.2 u_55.1.1 u_55.1.2.1 u_55.1.2.2) H := hP
                have hD : va_D A (tm_ws h b1 b2 b3 b4 b5 b6 cI cL cZ 0 cnt (va_up fp cnt a) (va_up sp cnt b) (vp_updL mo cnt cv) on u_55.2.2.1 u_55.2.1 u_55.2.2.2 u_55.1.1 u_55.1.2.1 u_55.1.2.2) := hD
                refine lv_aload_n hx hb dX1_add_94 rfl (lv_at hl 0 rfl) ?_
                refine va_get (D := (dC, dI)) (ci := 1) (v := .ref b4) (C := RX1) (T := TX1) (N := 12) hx hb hts hin hown hK hP 0 rfl rfl 5 (by decide) kf20 (fun _ h9 => h9) rfl dX1_add_95 ?_
                refine lv_aload_n hx hb dX1_add_98 rfl (lv_at hl 0 rfl) ?_
                refine va_get (D := (dC, dI)) (ci := 1) (v := .int (nI cnt)) (C := RX1) (T := TX1) (N := 12) hx hb hts hin hown hK hP 0 rfl rfl 1 (by decide) kf34 (fun _ h9 => h9) rfl dX1_add_99 ?_
                refine lv_iconst (v := nI 1) hx hb dX1_add_102 (by decide) ?_
                refine tn_zast (i := cnt) (f' := (fun zz => tn_b (va_up on cnt true zz))) hx hb hK hP hD hS 4 2 rfl rfl (by omega) (by decide) (tn_updB on cnt true) dX1_add_103 (fun H locs hP hD hS => ?_)
                have hP : va_P (dC, dI) vwCl (tm_ws h b1 b2 b3 b4 b5 b6 cI cL cZ 0 cnt (va_up fp cnt a) (va_up sp cnt b) (vp_updL mo cnt cv) (va_up on cnt true) u_55.2.2.1 u_55.2.1 u_55.2.2.2 u_55.1.1 u_55.1.2.1 u_55.1.2.2) H := hP
                have hD : va_D A (tm_ws h b1 b2 b3 b4 b5 b6 cI cL cZ 0 cnt (va_up fp cnt a) (va_up sp cnt b) (vp_updL mo cnt cv) (va_up on cnt true) u_55.2.2.1 u_55.2.1 u_55.2.2.2 u_55.1.1 u_55.1.2.1 u_55.1.2.2) := hD
                refine lv_aload_n hx hb dX1_add_104 rfl (lv_at hl 0 rfl) ?_
                refine lv_dup hx hb dX1_add_105 rfl ?_
                refine va_get (D := (dC, dI)) (ci := 1) (v := .int (nI cnt)) (C := RX1) (T := TX1) (N := 12) hx hb hts hin hown hK hP 0 rfl rfl 1 (by decide) kf34 (fun _ h9 => h9) rfl dX1_add_106 ?_
                refine lv_iconst (v := nI 1) hx hb dX1_add_109 (by decide) ?_
                refine tn_iadd (a := cnt) (b := 1) hx hb dX1_add_110 ?_
                refine va_put (D := (dC, dI)) (ci := 1) (v := .int (nI (cnt + 1))) (ty := .int) (C := RX1) (T := TX1) (N := 12) hx hb hts hin tyX1 tyX1_ok nmX1 hown hK hP hD hS 0 rfl rfl 1 (by decide) kf34 (fun _ h9 => h9) rfl (by decide +kernel) rfl rfl (Nat.le_of_ble_eq_true rfl) dX1_add_111 (fun H locs hP hD hS => ?_)
                have hP : va_P (dC, dI) vwCl (tm_ws h b1 b2 b3 b4 b5 b6 cI cL cZ 0 (cnt + 1) (va_up fp cnt a) (va_up sp cnt b) (vp_updL mo cnt cv) (va_up on cnt true) u_55.2.2.1 u_55.2.1 u_55.2.2.2 u_55.1.1 u_55.1.2.1 u_55.1.2.2) H := hP
                have hD : va_D A (tm_ws h b1 b2 b3 b4 b5 b6 cI cL cZ 0 (cnt + 1) (va_up fp cnt a) (va_up sp cnt b) (vp_updL mo cnt cv) (va_up on cnt true) u_55.2.2.1 u_55.2.1 u_55.2.2.2 u_55.1.1 u_55.1.2.1 u_55.1.2.2) := hD
                refine lv_aload_n hx hb dX1_add_114 rfl (lv_at hl 0 rfl) ?_
                refine va_get (D := (dC, dI)) (ci := 1) (v := .int (nI (cnt + 1))) (C := RX1) (T := TX1) (N := 12) hx hb hts hin hown hK hP 0 rfl rfl 1 (by decide) kf34 (fun _ h9 => h9) rfl dX1_add_115 ?_
                refine lv_iconst (v := nI 1) hx hb dX1_add_118 (by decide) ?_
                refine tn_isub2 (a := (cnt + 1)) (b := 1) (d := cnt) hx hb (by omega) dX1_add_119 ?_
                exact W.iret (v := nI cnt) hx hb hr (fun t ht hW => ⟨⟨nI cnt, ((u_55.1.1, u_55.1.2.1, u_55.1.2.2), (cnt + 1), va_up fp cnt a, va_up sp cnt b, vp_updL mo cnt cv, va_up on cnt true, u_55.2.1, u_55.2.2.1, u_55.2.2.2), rfl, Or.inl ⟨a, b, r_55, hfull, ha, hb2, hab, rfl, rfl, hc1, hc2, hw_55, Or.inr ⟨hr0, rfl, rfl, rfl, rfl, rfl, rfl⟩⟩, by rw [ht]; exact hP, va_K.moved hW.alike hK, hD⟩, hS.F ht⟩) hS.2.2 dX1_add_120
              · skip
                have hr1 : r_55 = nI 1 := by
                  rcases hw_55 with ⟨_, _, _, _, _, q, _⟩ | ⟨_, q, _⟩
                  · exact q
                  · exact absurd (q : r_55 = 0) c_58
                refine lv_bipush (v := (-2)) hx hb dX1_add_61 (by decide) ?_
                exact W.iret (v := (-2)) hx hb hr (fun t ht hW => ⟨⟨(-2), ((u_55.1.1, u_55.1.2.1, u_55.1.2.2), cnt, fp, sp, mo, on, u_55.2.1, u_55.2.2.1, u_55.2.2.2), rfl, Or.inl ⟨a, b, r_55, hfull, ha, hb2, hab, rfl, rfl, hc1, hc2, hw_55, Or.inl ⟨hr1, rfl, rfl, rfl, rfl, rfl, rfl⟩⟩, by rw [ht]; exact hP, va_K.moved hW.alike hK, hD⟩, hS.F ht⟩) hS.2.2 dX1_add_63
            · skip
              have hfull : cnt = 120 := (nI_eq (by omega) (by omega)).mp c_46
              refine lv_iconst (v := (-1)) hx hb dX1_add_49 (by decide) ?_
              exact W.iret (v := (-1)) hx hb hr (fun t ht hW => ⟨⟨(-1), ((le, bl, bs), cnt, fp, sp, mo, on, rw, rs, rl), rfl, Or.inr ⟨fun q => absurd q (by omega), rfl, rfl, rfl, rfl, rfl, rfl, rfl, rfl, rfl⟩, by rw [ht]; exact hP, va_K.moved hW.alike hK, hD⟩, hS.F ht⟩) hS.2.2 dX1_add_50
set_option maxHeartbeats 4000000 in
set_option maxRecDepth 100000 in
/-- off(x) -/
theorem cX1_off_ok (l : Launch) (dC : Nat → ClassId) (dI : Nat → Nat → Nat) (h b1 b2 b3 b4 b5 b6 : Nat) (cI cL cZ : ClassId) (th cnt : Nat) (fp sp : Nat → Nat) (mo : Nat → Int64) (on : Nat → Bool) (rs : Nat) (rw : Nat → Nat) (rl : Int64) (le : Nat → Int64) (bl : Int64) (bs : Int32) (sz : Nat) (hc : cnt ≤ 120) (x : Int32) : Met l yX1_off wsX1_off ({ frames := 1, cells := 0, slots := 0, locals := 21 }) (va_Pc [.ref h, .int x] (tn_Pre dC dI (tn_tys cI cL cZ) (tm_ws h b1 b2 b3 b4 b5 b6 cI cL cZ th cnt fp sp mo on rs rw rl le bl bs) sz)) (va_Qi (S := Nat → Bool) (fun r u => sp_off cnt on x r u) (fun u t => tn_at dC dI (tn_tys cI cL cZ) (va_A (tm_ws h b1 b2 b3 b4 b5 b6 cI cL cZ th cnt fp sp mo on rs rw rl le bl bs) sz) (tm_ws h b1 b2 b3 b4 b5 b6 cI cL cZ 0 cnt fp sp mo u rs rw rl le bl bs) t) (va_A (tm_ws h b1 b2 b3 b4 b5 b6 cI cL cZ th cnt fp sp mo on rs rw rl le bl bs) sz)) 0 0 (va_A (tm_ws h b1 b2 b3 b4 b5 b6 cI cL cZ th cnt fp sp mo on rs rw rl le bl bs) sz) := by
  refine Met.ofW (cc := cX1_off) (maxL := 2) (ret := (some .boolean)) (by decide) rfl ?_
  intro p e s m args below meth c s₁ B hml hv
  obtain ⟨rfl, hsz, hP, hK, hD0⟩ := hv
  have hx := B.exec
  have hb := B.bytes
  have hr := B.returns
  have hts := atoms_spec (ws := wsX1_off) B.pre
  have hown : s.vm.findClass RX1 = some m.cls := findClass_of_methodNamed B.named
  have hlocks := B.notSynchronized
  subst hsz
  have hD := hD0.self (sz := s.heap.size)
  generalize hAe : va_A (tm_ws h b1 b2 b3 b4 b5 b6 cI cL cZ th cnt fp sp mo on rs rw rl le bl bs) s.heap.size = A at hD ⊢
  have hA : ∀ q : Nat, s.heap.size ≤ q → A q := fun q h => by rw [← hAe]; exact Or.inr h
  have hS : va_S A s.heap s.heap [] := va_S.rf
  have hl := lv_entry ([.ref h, .int x]) (n := 2) (Nat.le_of_ble_eq_true rfl)
  rw [lg_entry_eq]
  generalize (lg_sl ([.ref h, .int x]) ++ List.replicate (2 - (lg_sl ([.ref h, .int x])).length) Slot.unset).toArray = ls at hl ⊢
  have hl : lv_has ls 2 [(0, .ref h), (1, .int x)] := hl
  have kf30 := hts (.fieldLink RX1 30 "TimeNetModel" "thrown" "I") (by decide +kernel)
  have kf20 := hts (.fieldLink RX1 20 "TimeNetModel" "isOn" "[Z") (by decide +kernel)
  have hin : ∀ w ∈ u_ws RX1 TX1 12, w ∈ wsX1_off := by decide +kernel
  refine lv_aload_n hx hb dX1_off_0 rfl (lv_at hl 0 rfl) ?_
  refine lv_iconst (v := nI 0) hx hb dX1_off_1 (by decide) ?_
  refine va_put (D := (dC, dI)) (ci := 1) (v := .int (nI 0)) (ty := .int) (C := RX1) (T := TX1) (N := 12) hx hb hts hin tyX1 tyX1_ok nmX1 hown hK hP hD hS 0 rfl rfl 0 (by decide) kf30 (fun _ h9 => h9) rfl (by decide +kernel) rfl rfl (Nat.le_of_ble_eq_true rfl) dX1_off_2 (fun H locs hP hD hS => ?_)
  have hP : va_P (dC, dI) vwCl (tm_ws h b1 b2 b3 b4 b5 b6 cI cL cZ 0 cnt fp sp mo on rs rw rl le bl bs) H := hP
  have hD : va_D A (tm_ws h b1 b2 b3 b4 b5 b6 cI cL cZ 0 cnt fp sp mo on rs rw rl le bl bs) := hD
  refine lv_aload_n hx hb dX1_off_5 rfl (lv_at hl 0 rfl) ?_
  refine lv_iload_n hx hb dX1_off_6 rfl (lv_at hl 1 rfl) ?_
  have hF := tn_freeA hD hS hA
  refine va_calli (va_runV (As := [.int x]) (rest := []) ⟨hx, hb, hml, hown, hts⟩ (cX1_isThere_ok l dC dI h b1 b2 b3 b4 b5 b6 cI cL cZ 0 cnt fp sp mo on rs rw rl le bl bs H.size hc x) (cwV 1 hts gX1_off_X1_isThere rfl rfl rfl (by decide +kernel) ⟨Nat.le_of_ble_eq_true rfl, Nat.le_of_ble_eq_true rfl⟩) (tn_preV hK hP hD (ci := 1) rfl 0 rfl) rfl rfl hl.1 rfl (lv_room (Nat.le_of_ble_eq_true rfl)) dX1_off_7 ⟨Nat.le_of_ble_eq_true rfl, Nat.le_of_ble_eq_true rfl⟩) hS (fun q _ h => hF q h) hF (fun r_7 u_7 t H1 locs ht hvm hw_7 hB hz1 hk1 hS => ?_)
  obtain ⟨hP1, -, hD1⟩ := hB
  rw [ht] at hP1
  have hD := hD1.weaken (fun _ q _ hq => hF q.1 hq)
  clear hP hk1 hF hz1 ht hvm hD1
  generalize H1 = H at hP1 hS ⊢
  have hP := hP1
  clear hP1
  refine lv_if_eq (tgt := 22) hx hb dX1_off_10 (by decide) (fun c_10 => ?_) (fun c_10 => ?_)
  · skip
    have hn_7 : ∀ j, j < cnt → x ≠ nI j := by
      rcases hw_7 with ⟨q, _⟩ | ⟨_, q⟩
      · exact absurd (q ▸ c_10 : nI 1 = 0) (by decide)
      · exact q
    refine lv_iconst (v := nI 0) hx hb dX1_off_22 (by decide) ?_
    exact W.zret (v := nI 0) hx hb hr rfl (fun t ht hW => ⟨⟨nI 0, on, rfl, Or.inr ⟨fun k hk e => absurd e (hn_7 k hk), rfl, rfl⟩, by rw [ht]; exact hP, va_K.moved hW.alike hK, hD⟩, hS.F ht⟩) hS.2.2 dX1_off_23
  · skip
    obtain ⟨k, hk, ex⟩ : ∃ j, j < cnt ∧ x = nI j := by
      rcases hw_7 with ⟨_, q⟩ | ⟨q, _⟩
      · exact q
      · exact absurd (q : r_7 = 0) c_10
    subst ex
    refine lv_aload_n hx hb dX1_off_13 rfl (lv_at hl 0 rfl) ?_
    refine va_get (D := (dC, dI)) (ci := 1) (v := .ref b4) (C := RX1) (T := TX1) (N := 12) hx hb hts hin hown hK hP 0 rfl rfl 5 (by decide) kf20 (fun _ h9 => h9) rfl dX1_off_14 ?_
    refine lv_iload_n hx hb dX1_off_17 rfl (lv_at hl 1 rfl) ?_
    refine tn_zald (i := k) (v := tn_b (on k)) hx hb hK hP 4 2 rfl rfl (by omega) (by decide) rfl dX1_off_18 ?_
    refine lv_if_ne (tgt := 24) hx hb dX1_off_19 (by decide) (fun c_19 => ?_) (fun c_19 => ?_)
    · skip
      have ho := tn_b_ne0 c_19
      refine lv_aload_n hx hb dX1_off_24 rfl (lv_at hl 0 rfl) ?_
      refine va_get (D := (dC, dI)) (ci := 1) (v := .ref b4) (C := RX1) (T := TX1) (N := 12) hx hb hts hin hown hK hP 0 rfl rfl 5 (by decide) kf20 (fun _ h9 => h9) rfl dX1_off_25 ?_
      refine lv_iload_n hx hb dX1_off_28 rfl (lv_at hl 1 rfl) ?_
      refine lv_iconst (v := nI 0) hx hb dX1_off_29 (by decide) ?_
      refine tn_zast (i := k) (f' := (fun zz => tn_b (va_up on k false zz))) hx hb hK hP hD hS 4 2 rfl rfl (by omega) (by decide) (tn_updB on k false) dX1_off_30 (fun H locs hP hD hS => ?_)
      have hP : va_P (dC, dI) vwCl (tm_ws h b1 b2 b3 b4 b5 b6 cI cL cZ 0 cnt fp sp mo (va_up on k false) rs rw rl le bl bs) H := hP
      have hD : va_D A (tm_ws h b1 b2 b3 b4 b5 b6 cI cL cZ 0 cnt fp sp mo (va_up on k false) rs rw rl le bl bs) := hD
      refine lv_iconst (v := nI 1) hx hb dX1_off_31 (by decide) ?_
      exact W.zret (v := nI 1) hx hb hr rfl (fun t ht hW => ⟨⟨nI 1, va_up on k false, rfl, Or.inl ⟨k, hk, rfl, ho, rfl, rfl⟩, by rw [ht]; exact hP, va_K.moved hW.alike hK, hD⟩, hS.F ht⟩) hS.2.2 dX1_off_32
    · skip
      have ho := tn_b_eq0 c_19
      refine lv_iconst (v := nI 0) hx hb dX1_off_22 (by decide) ?_
      exact W.zret (v := nI 0) hx hb hr rfl (fun t ht hW => ⟨⟨nI 0, on, rfl, Or.inr ⟨fun k2 hk2 e => by rw [(nI_eq (by omega) (by omega)).mp e] at ho; exact ho, rfl, rfl⟩, by rw [ht]; exact hP, va_K.moved hW.alike hK, hD⟩, hS.F ht⟩) hS.2.2 dX1_off_23
set_option maxHeartbeats 4000000 in
set_option maxRecDepth 100000 in
/-- on(x) -/
theorem cX1_on_ok (l : Launch) (dC : Nat → ClassId) (dI : Nat → Nat → Nat) (h b1 b2 b3 b4 b5 b6 : Nat) (cI cL cZ : ClassId) (th cnt : Nat) (fp sp : Nat → Nat) (mo : Nat → Int64) (on : Nat → Bool) (rs : Nat) (rw : Nat → Nat) (rl : Int64) (le : Nat → Int64) (bl : Int64) (bs : Int32) (sz : Nat) (g : tn_good cnt fp sp mo) (ok : tn_ok (tn_E cnt fp sp mo on)) (x : Int32) : Met l yX1_on wsX1_on ({ frames := 3, cells := 0, slots := 0, locals := 73 }) (va_Pc [.ref h, .int x] (tn_Pre dC dI (tn_tys cI cL cZ) (tm_ws h b1 b2 b3 b4 b5 b6 cI cL cZ th cnt fp sp mo on rs rw rl le bl bs) sz)) (va_Qi (S := ((Nat → Int64) × Int64 × Int32) × (Nat → Bool) × (Nat → Nat) × Nat × Int64) (fun r u => sp_on cnt fp sp mo on x r rw rs rl u.2.1 u.2.2.1 u.2.2.2.1 u.2.2.2.2) (fun u t => tn_at dC dI (tn_tys cI cL cZ) (va_A (tm_ws h b1 b2 b3 b4 b5 b6 cI cL cZ th cnt fp sp mo on rs rw rl le bl bs) sz) (tm_ws h b1 b2 b3 b4 b5 b6 cI cL cZ 0 cnt fp sp mo u.2.1 u.2.2.2.1 u.2.2.1 u.2.2.2.2 u.1.1 u.1.2.1 u.1.2.2) t) (va_A (tm_ws h b1 b2 b3 b4 b5 b6 cI cL cZ th cnt fp sp mo on rs rw rl le bl bs) sz)) 0 0 (va_A (tm_ws h b1 b2 b3 b4 b5 b6 cI cL cZ th cnt fp sp mo on rs rw rl le bl bs) sz) := by
  refine Met.ofW (cc := cX1_on) (maxL := 2) (ret := (some .int)) (by decide) rfl ?_
  intro p e s m args below meth c s₁ B hml hv
  obtain ⟨rfl, hsz, hP, hK, hD0⟩ := hv
  have hx := B.exec
  have hb := B.bytes
  have hr := B.returns
  have hts := atoms_spec (ws := wsX1_on) B.pre
  have hown : s.vm.findClass RX1 = some m.cls := findClass_of_methodNamed B.named
  have hlocks := B.notSynchronized
  subst hsz
  have hD := hD0.self (sz := s.heap.size)
  generalize hAe : va_A (tm_ws h b1 b2 b3 b4 b5 b6 cI cL cZ th cnt fp sp mo on rs rw rl le bl bs) s.heap.size = A at hD ⊢
  have hA : ∀ q : Nat, s.heap.size ≤ q → A q := fun q h => by rw [← hAe]; exact Or.inr h
  have hS : va_S A s.heap s.heap [] := va_S.rf
  have hl := lv_entry ([.ref h, .int x]) (n := 2) (Nat.le_of_ble_eq_true rfl)
  rw [lg_entry_eq]
  generalize (lg_sl ([.ref h, .int x]) ++ List.replicate (2 - (lg_sl ([.ref h, .int x])).length) Slot.unset).toArray = ls at hl ⊢
  have hl : lv_has ls 2 [(0, .ref h), (1, .int x)] := hl
  have kf30 := hts (.fieldLink RX1 30 "TimeNetModel" "thrown" "I") (by decide +kernel)
  have kf20 := hts (.fieldLink RX1 20 "TimeNetModel" "isOn" "[Z") (by decide +kernel)
  have kf7 := hts (.fieldLink RX1 7 "TimeNetModel" "first" "[I") (by decide +kernel)
  have kf13 := hts (.fieldLink RX1 13 "TimeNetModel" "second" "[I") (by decide +kernel)
  have kf16 := hts (.fieldLink RX1 16 "TimeNetModel" "c" "[J") (by decide +kernel)
  have hin : ∀ w ∈ u_ws RX1 TX1 12, w ∈ wsX1_on := by decide +kernel
  have hc := g.1
  refine lv_aload_n hx hb dX1_on_0 rfl (lv_at hl 0 rfl) ?_
  refine lv_iconst (v := nI 0) hx hb dX1_on_1 (by decide) ?_
  refine va_put (D := (dC, dI)) (ci := 1) (v := .int (nI 0)) (ty := .int) (C := RX1) (T := TX1) (N := 12) hx hb hts hin tyX1 tyX1_ok nmX1 hown hK hP hD hS 0 rfl rfl 0 (by decide) kf30 (fun _ h9 => h9) rfl (by decide +kernel) rfl rfl (Nat.le_of_ble_eq_true rfl) dX1_on_2 (fun H locs hP hD hS => ?_)
  have hP : va_P (dC, dI) vwCl (tm_ws h b1 b2 b3 b4 b5 b6 cI cL cZ 0 cnt fp sp mo on rs rw rl le bl bs) H := hP
  have hD : va_D A (tm_ws h b1 b2 b3 b4 b5 b6 cI cL cZ 0 cnt fp sp mo on rs rw rl le bl bs) := hD
  refine lv_aload_n hx hb dX1_on_5 rfl (lv_at hl 0 rfl) ?_
  refine lv_iload_n hx hb dX1_on_6 rfl (lv_at hl 1 rfl) ?_
  have hF := tn_freeA hD hS hA
  refine va_calli (va_runV (As := [.int x]) (rest := []) ⟨hx, hb, hml, hown, hts⟩ (cX1_isThere_ok l dC dI h b1 b2 b3 b4 b5 b6 cI cL cZ 0 cnt fp sp mo on rs rw rl le bl bs H.size hc x) (cwV 1 hts gX1_on_X1_isThere rfl rfl rfl (by decide +kernel) ⟨Nat.le_of_ble_eq_true rfl, Nat.le_of_ble_eq_true rfl⟩) (tn_preV hK hP hD (ci := 1) rfl 0 rfl) rfl rfl hl.1 rfl (lv_room (Nat.le_of_ble_eq_true rfl)) dX1_on_7 ⟨Nat.le_of_ble_eq_true rfl, Nat.le_of_ble_eq_true rfl⟩) hS (fun q _ h => hF q h) hF (fun r_7 u_7 t H1 locs ht hvm hw_7 hB hz1 hk1 hS => ?_)
  obtain ⟨hP1, -, hD1⟩ := hB
  rw [ht] at hP1
  have hD := hD1.weaken (fun _ q _ hq => hF q.1 hq)
  clear hP hk1 hF hz1 ht hvm hD1
  generalize H1 = H at hP1 hS ⊢
  have hP := hP1
  clear hP1
  refine lv_if_eq (tgt := 22) hx hb dX1_on_10 (by decide) (fun c_10 => ?_) (fun c_10 => ?_)
  · skip
    have hn_7 : ∀ j, j < cnt → x ≠ nI j := by
      rcases hw_7 with ⟨q, _⟩ | ⟨_, q⟩
      · exact absurd (q ▸ c_10 : nI 1 = 0) (by decide)
      · exact q
    refine lv_iconst (v := (-1)) hx hb dX1_on_22 (by decide) ?_
    exact W.iret (v := (-1)) hx hb hr (fun t ht hW => ⟨⟨(-1), ((le, bl, bs), on, rw, rs, rl), rfl, Or.inr ⟨fun k hk e => absurd e (hn_7 k hk), rfl, rfl, rfl, rfl, rfl⟩, by rw [ht]; exact hP, va_K.moved hW.alike hK, hD⟩, hS.F ht⟩) hS.2.2 dX1_on_23
  · skip
    obtain ⟨k, hk, ex⟩ : ∃ j, j < cnt ∧ x = nI j := by
      rcases hw_7 with ⟨_, q⟩ | ⟨q, _⟩
      · exact q
      · exact absurd (q : r_7 = 0) c_10
    subst ex
    refine lv_aload_n hx hb dX1_on_13 rfl (lv_at hl 0 rfl) ?_
    refine va_get (D := (dC, dI)) (ci := 1) (v := .ref b4) (C := RX1) (T := TX1) (N := 12) hx hb hts hin hown hK hP 0 rfl rfl 5 (by decide) kf20 (fun _ h9 => h9) rfl dX1_on_14 ?_
    refine lv_iload_n hx hb dX1_on_17 rfl (lv_at hl 1 rfl) ?_
    refine tn_zald (i := k) (v := tn_b (on k)) hx hb hK hP 4 2 rfl rfl (by omega) (by decide) rfl dX1_on_18 ?_
    refine lv_if_eq (tgt := 24) hx hb dX1_on_19 (by decide) (fun c_19 => ?_) (fun c_19 => ?_)
    · skip
      have ho := tn_b_eq0 c_19
      have hk0 := (g.2 k hk).1
      have hk1 := (g.2 k hk).2.1
      refine lv_aload_n hx hb dX1_on_24 rfl (lv_at hl 0 rfl) ?_
      refine lv_aload_n hx hb dX1_on_25 rfl (lv_at hl 0 rfl) ?_
      refine va_get (D := (dC, dI)) (ci := 1) (v := .ref b1) (C := RX1) (T := TX1) (N := 12) hx hb hts hin hown hK hP 0 rfl rfl 2 (by decide) kf7 (fun _ h9 => h9) rfl dX1_on_26 ?_
      refine lv_iload_n hx hb dX1_on_29 rfl (lv_at hl 1 rfl) ?_
      refine tn_iald (i := k) (v := nI (fp k)) hx hb hK hP 1 0 rfl rfl (by omega) (by decide) rfl dX1_on_30 ?_
      refine lv_aload_n hx hb dX1_on_31 rfl (lv_at hl 0 rfl) ?_
      refine va_get (D := (dC, dI)) (ci := 1) (v := .ref b2) (C := RX1) (T := TX1) (N := 12) hx hb hts hin hown hK hP 0 rfl rfl 3 (by decide) kf13 (fun _ h9 => h9) rfl dX1_on_32 ?_
      refine lv_iload_n hx hb dX1_on_35 rfl (lv_at hl 1 rfl) ?_
      refine tn_iald (i := k) (v := nI (sp k)) hx hb hK hP 2 0 rfl rfl (by omega) (by decide) rfl dX1_on_36 ?_
      refine lv_aload_n hx hb dX1_on_37 rfl (lv_at hl 0 rfl) ?_
      refine va_get (D := (dC, dI)) (ci := 1) (v := .ref b3) (C := RX1) (T := TX1) (N := 12) hx hb hts hin hown hK hP 0 rfl rfl 4 (by decide) kf16 (fun _ h9 => h9) rfl dX1_on_38 ?_
      refine lv_iload_n hx hb dX1_on_41 rfl (lv_at hl 1 rfl) ?_
      refine tn_lald (i := k) (v := mo k) hx hb hK hP 3 1 rfl rfl (by omega) (by decide) rfl dX1_on_42 ?_
      have hF := tn_freeA hD hS hA
      refine va_calli (va_runV (As := [.int (nI (fp k)), .int (nI (sp k)), .long (mo k)]) (rest := []) ⟨hx, hb, hml, hown, hts⟩ (cX1_isBad_ok l dC dI h b1 b2 b3 b4 b5 b6 cI cL cZ 0 cnt fp sp mo on rs rw rl le bl bs H.size g ok (fp k) hk0 (sp k) hk1 (mo k) (g.2 k hk).2.2.1 (g.2 k hk).2.2.2) (cwV 3 hts gX1_on_X1_isBad rfl rfl rfl (by decide +kernel) ⟨Nat.le_of_ble_eq_true rfl, Nat.le_of_ble_eq_true rfl⟩) (tn_preV hK hP hD (ci := 1) rfl 0 rfl) rfl rfl hl.1 rfl (lv_room (Nat.le_of_ble_eq_true rfl)) dX1_on_43 ⟨Nat.le_of_ble_eq_true rfl, Nat.le_of_ble_eq_true rfl⟩) hS (fun q _ h => hF q h) hF (fun r_43 u_43 t H1 locs ht hvm hw_43 hB hz1 hk1 hS => ?_)
      obtain ⟨hP1, -, hD1⟩ := hB
      rw [ht] at hP1
      have hD := hD1.weaken (fun _ q _ hq => hF q.1 hq)
      clear hP hk1 hF hz1 ht hvm hD1
      generalize H1 = H at hP1 hS ⊢
      have hP := hP1
      clear hP1
      refine lv_if_eq (tgt := 52) hx hb dX1_on_46 (by decide) (fun c_46 => ?_) (fun c_46 => ?_)
      · skip
        have hr0 : r_43 = nI 0 := c_46
        refine lv_aload_n hx hb dX1_on_52 rfl (lv_at hl 0 rfl) ?_
        refine va_get (D := (dC, dI)) (ci := 1) (v := .ref b4) (C := RX1) (T := TX1) (N := 12) hx hb hts hin hown hK hP 0 rfl rfl 5 (by decide) kf20 (fun _ h9 => h9) rfl dX1_on_53 ?_
        refine lv_iload_n hx hb dX1_on_56 rfl (lv_at hl 1 rfl) ?_
        refine lv_iconst (v := nI 1) hx hb dX1_on_57 (by decide) ?_
        refine tn_zast (i := k) (f' := (fun zz => tn_b (va_up on k true zz))) hx hb hK hP hD hS 4 2 rfl rfl (by omega) (by decide) (tn_updB on k true) dX1_on_58 (fun H locs hP hD hS => ?_)
        have hP : va_P (dC, dI) vwCl (tm_ws h b1 b2 b3 b4 b5 b6 cI cL cZ 0 cnt fp sp mo (va_up on k true) u_43.2.2.1 u_43.2.1 u_43.2.2.2 u_43.1.1 u_43.1.2.1 u_43.1.2.2) H := hP
        have hD : va_D A (tm_ws h b1 b2 b3 b4 b5 b6 cI cL cZ 0 cnt fp sp mo (va_up on k true) u_43.2.2.1 u_43.2.1 u_43.2.2.2 u_43.1.1 u_43.1.2.1 u_43.1.2.2) := hD
        refine lv_iload_n hx hb dX1_on_59 rfl (lv_at hl 1 rfl) ?_
        exact W.iret (v := nI k) hx hb hr (fun t ht hW => ⟨⟨nI k, ((u_43.1.1, u_43.1.2.1, u_43.1.2.2), va_up on k true, u_43.2.1, u_43.2.2.1, u_43.2.2.2), rfl, Or.inl ⟨k, r_43, hk, rfl, ho, hw_43, Or.inr ⟨hr0, rfl, rfl⟩⟩, by rw [ht]; exact hP, va_K.moved hW.alike hK, hD⟩, hS.F ht⟩) hS.2.2 dX1_on_60
      · skip
        have hr1 : r_43 = nI 1 := by
          rcases hw_43 with ⟨_, _, _, _, _, q, _⟩ | ⟨_, q, _⟩
          · exact q
          · exact absurd (q : r_43 = 0) c_46
        refine lv_bipush (v := (-2)) hx hb dX1_on_49 (by decide) ?_
        exact W.iret (v := (-2)) hx hb hr (fun t ht hW => ⟨⟨(-2), ((u_43.1.1, u_43.1.2.1, u_43.1.2.2), on, u_43.2.1, u_43.2.2.1, u_43.2.2.2), rfl, Or.inl ⟨k, r_43, hk, rfl, ho, hw_43, Or.inl ⟨hr1, rfl, rfl⟩⟩, by rw [ht]; exact hP, va_K.moved hW.alike hK, hD⟩, hS.F ht⟩) hS.2.2 dX1_on_51
    · skip
      have ho := tn_b_ne0 c_19
      refine lv_iconst (v := (-1)) hx hb dX1_on_22 (by decide) ?_
      exact W.iret (v := (-1)) hx hb hr (fun t ht hW => ⟨⟨(-1), ((le, bl, bs), on, rw, rs, rl), rfl, Or.inr ⟨fun k2 hk2 e => by rw [(nI_eq (by omega) (by omega)).mp e] at ho; exact ho, rfl, rfl, rfl, rfl, rfl⟩, by rw [ht]; exact hP, va_K.moved hW.alike hK, hD⟩, hS.F ht⟩) hS.2.2 dX1_on_23
