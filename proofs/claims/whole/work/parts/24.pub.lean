set_option maxHeartbeats 4000000 in
set_option maxRecDepth 100000 in
/-- off(x) -/
theorem cX0_off_ok (l : Launch) (dC : Nat → ClassId) (dI : Nat → Nat → Nat) (h a1 a2 a3 a4 a5 a6 a7 : Nat) (cI cL cZ : ClassId) (cnt onc : Nat) (fp sp : Nat → Nat) (mo : Nat → Int64) (on : Nat → Bool) (lf : Nat → Int64) (sf : Nat → Int32) (rp : Nat → Nat) (rs : Nat) (rl : Int64) (sz : Nat) (hc : cnt ≤ 120) (hoc : onc = tn_cn on cnt) (x : Int32) : Met l yX0_off wsX0_off ({ frames := 1, cells := 0, slots := 0, locals := 21 }) (va_Pc [.ref h, .int x] (tn_Pre dC dI (tn_tys cI cL cZ) (tn_ws h a1 a2 a3 a4 a5 a6 a7 cI cL cZ cnt onc fp sp mo on lf sf rp rs rl) sz)) (va_Qi (S := Nat × (Nat → Bool)) (fun r u => sp_off cnt on x r u.2 ∧ u.1 = tn_cn u.2 cnt) (fun u t => tn_at dC dI (tn_tys cI cL cZ) (va_A (tn_ws h a1 a2 a3 a4 a5 a6 a7 cI cL cZ cnt onc fp sp mo on lf sf rp rs rl) sz) (tn_ws h a1 a2 a3 a4 a5 a6 a7 cI cL cZ cnt u.1 fp sp mo u.2 lf sf rp rs rl) t) (va_A (tn_ws h a1 a2 a3 a4 a5 a6 a7 cI cL cZ cnt onc fp sp mo on lf sf rp rs rl) sz)) 0 0 (va_A (tn_ws h a1 a2 a3 a4 a5 a6 a7 cI cL cZ cnt onc fp sp mo on lf sf rp rs rl) sz) := by
  refine Met.ofW (cc := cX0_off) (maxL := 2) (ret := (some .boolean)) (by decide) rfl ?_
  intro p e s m args below meth c s₁ B hml hv
  obtain ⟨rfl, hsz, hP, hK, hD0⟩ := hv
  have hx := B.exec
  have hb := B.bytes
  have hr := B.returns
  have hts := atoms_spec (ws := wsX0_off) B.pre
  have hown : s.vm.findClass RX0 = some m.cls := findClass_of_methodNamed B.named
  have hlocks := B.notSynchronized
  subst hsz
  have hD := hD0.self (sz := s.heap.size)
  generalize hAe : va_A (tn_ws h a1 a2 a3 a4 a5 a6 a7 cI cL cZ cnt onc fp sp mo on lf sf rp rs rl) s.heap.size = A at hD ⊢
  have hA : ∀ q : Nat, s.heap.size ≤ q → A q := fun q h => by rw [← hAe]; exact Or.inr h
  have hS : va_S A s.heap s.heap [] := va_S.rf
  have hl := lv_entry ([.ref h, .int x]) (n := 2) (Nat.le_of_ble_eq_true rfl)
  rw [lg_entry_eq]
  generalize (lg_sl ([.ref h, .int x]) ++ List.replicate (2 - (lg_sl ([.ref h, .int x])).length) Slot.unset).toArray = ls at hl ⊢
  have hl : lv_has ls 2 [(0, .ref h), (1, .int x)] := hl
  have kf20 := hts (.fieldLink RX0 20 "TimeNet" "isOn" "[Z") (by decide +kernel)
  have kf44 := hts (.fieldLink RX0 44 "TimeNet" "onCount" "I") (by decide +kernel)
  have hin : ∀ w ∈ u_ws RX0 TX0 11, w ∈ wsX0_off := by decide +kernel
  refine lv_aload_n hx hb dX0_off_0 rfl (lv_at hl 0 rfl) ?_
  refine lv_iload_n hx hb dX0_off_1 rfl (lv_at hl 1 rfl) ?_
  have hF := tn_freeA hD hS hA
  refine va_calli (va_runV (As := [.int x]) (rest := []) ⟨hx, hb, hml, hown, hts⟩ (cX0_isNumber_ok l dC dI h a1 a2 a3 a4 a5 a6 a7 cI cL cZ cnt onc fp sp mo on lf sf rp rs rl s.heap.size hc x) (cwV 1 hts gX0_off_X0_isNumber rfl rfl rfl (by decide +kernel) ⟨Nat.le_of_ble_eq_true rfl, Nat.le_of_ble_eq_true rfl⟩) (tn_preV hK hP hD (ci := 0) rfl 0 rfl) rfl rfl hl.1 rfl (lv_room (Nat.le_of_ble_eq_true rfl)) dX0_off_2 ⟨Nat.le_of_ble_eq_true rfl, Nat.le_of_ble_eq_true rfl⟩) hS (fun q _ h => hF q h) hF (fun r_2 u_2 t H1 locs ht hvm hw_2 hB hz1 hk1 hS => ?_)
  obtain ⟨hP1, -, hD1⟩ := hB
  rw [ht] at hP1
  have hD := hD1.weaken (fun _ q _ hq => hF q.1 hq)
  clear hP hk1 hF hz1 ht hvm hD1
  generalize H1 = H at hP1 hS ⊢
  have hP := hP1
  clear hP1
  refine lv_if_eq (tgt := 17) hx hb dX0_off_5 (by decide) (fun c_5 => ?_) (fun c_5 => ?_)
  · skip
    have hn_2 : ∀ j, j < cnt → x ≠ nI j := by
      rcases hw_2 with ⟨q, _⟩ | ⟨_, q⟩
      · exact absurd (q ▸ c_5 : nI 1 = 0) (by decide)
      · exact q
    refine lv_iconst (v := nI 0) hx hb dX0_off_17 (by decide) ?_
    exact W.zret (v := nI 0) hx hb hr rfl (fun t ht hW => ⟨⟨nI 0, (onc, on), rfl, ⟨Or.inr ⟨fun k hk e => absurd e (hn_2 k hk), rfl, rfl⟩, hoc⟩, by rw [ht]; exact hP, va_K.moved hW.alike hK, hD⟩, hS.F ht⟩) hS.2.2 dX0_off_18
  · skip
    obtain ⟨k, hk, ex⟩ : ∃ j, j < cnt ∧ x = nI j := by
      rcases hw_2 with ⟨_, q⟩ | ⟨q, _⟩
      · exact q
      · exact absurd (q : r_2 = 0) c_5
    subst ex
    refine lv_aload_n hx hb dX0_off_8 rfl (lv_at hl 0 rfl) ?_
    refine va_get (D := (dC, dI)) (ci := 0) (v := .ref a4) (C := RX0) (T := TX0) (N := 11) hx hb hts hin hown hK hP 0 rfl rfl 3 (by decide) kf20 (fun _ h9 => h9) rfl dX0_off_9 ?_
    refine lv_iload_n hx hb dX0_off_12 rfl (lv_at hl 1 rfl) ?_
    refine tn_zald (i := k) (v := tn_b (on k)) hx hb hK hP 4 2 rfl rfl (by omega) (by decide) rfl dX0_off_13 ?_
    refine lv_if_ne (tgt := 19) hx hb dX0_off_14 (by decide) (fun c_14 => ?_) (fun c_14 => ?_)
    · skip
      have ho := tn_b_ne0 c_14
      have hp := tn_cn_pos hk ho
      refine lv_aload_n hx hb dX0_off_19 rfl (lv_at hl 0 rfl) ?_
      refine va_get (D := (dC, dI)) (ci := 0) (v := .ref a4) (C := RX0) (T := TX0) (N := 11) hx hb hts hin hown hK hP 0 rfl rfl 3 (by decide) kf20 (fun _ h9 => h9) rfl dX0_off_20 ?_
      refine lv_iload_n hx hb dX0_off_23 rfl (lv_at hl 1 rfl) ?_
      refine lv_iconst (v := nI 0) hx hb dX0_off_24 (by decide) ?_
      refine tn_zast (i := k) (f' := (fun zz => tn_b (va_up on k false zz))) hx hb hK hP hD hS 4 2 rfl rfl (by omega) (by decide) (tn_updB on k false) dX0_off_25 (fun H locs hP hD hS => ?_)
      have hP : va_P (dC, dI) vwCl (tn_ws h a1 a2 a3 a4 a5 a6 a7 cI cL cZ cnt onc fp sp mo (va_up on k false) lf sf rp rs rl) H := hP
      have hD : va_D A (tn_ws h a1 a2 a3 a4 a5 a6 a7 cI cL cZ cnt onc fp sp mo (va_up on k false) lf sf rp rs rl) := hD
      refine lv_aload_n hx hb dX0_off_26 rfl (lv_at hl 0 rfl) ?_
      refine lv_dup hx hb dX0_off_27 rfl ?_
      refine va_get (D := (dC, dI)) (ci := 0) (v := .int (nI onc)) (C := RX0) (T := TX0) (N := 11) hx hb hts hin hown hK hP 0 rfl rfl 5 (by decide) kf44 (fun _ h9 => h9) rfl dX0_off_28 ?_
      refine lv_iconst (v := nI 1) hx hb dX0_off_31 (by decide) ?_
      refine tn_isub (a := onc) (b := 1) hx hb (by omega) dX0_off_32 ?_
      refine va_put (D := (dC, dI)) (ci := 0) (v := .int (nI (onc - 1))) (ty := .int) (C := RX0) (T := TX0) (N := 11) hx hb hts hin tyX0 tyX0_ok nmX0 hown hK hP hD hS 0 rfl rfl 5 (by decide) kf44 (fun _ h9 => h9) rfl (by decide +kernel) rfl rfl (Nat.le_of_ble_eq_true rfl) dX0_off_33 (fun H locs hP hD hS => ?_)
      have hP : va_P (dC, dI) vwCl (tn_ws h a1 a2 a3 a4 a5 a6 a7 cI cL cZ cnt (onc - 1) fp sp mo (va_up on k false) lf sf rp rs rl) H := hP
      have hD : va_D A (tn_ws h a1 a2 a3 a4 a5 a6 a7 cI cL cZ cnt (onc - 1) fp sp mo (va_up on k false) lf sf rp rs rl) := hD
      refine lv_iconst (v := nI 1) hx hb dX0_off_36 (by decide) ?_
      exact W.zret (v := nI 1) hx hb hr rfl (fun t ht hW => ⟨⟨nI 1, ((onc - 1), va_up on k false), rfl, ⟨Or.inl ⟨k, hk, rfl, ho, rfl, rfl⟩, by have := tn_cn_off hk ho; show onc - 1 = tn_cn (va_up on k false) cnt; omega⟩, by rw [ht]; exact hP, va_K.moved hW.alike hK, hD⟩, hS.F ht⟩) hS.2.2 dX0_off_37
    · skip
      have ho := tn_b_eq0 c_14
      refine lv_iconst (v := nI 0) hx hb dX0_off_17 (by decide) ?_
      exact W.zret (v := nI 0) hx hb hr rfl (fun t ht hW => ⟨⟨nI 0, (onc, on), rfl, ⟨Or.inr ⟨fun k2 hk2 e => by rw [(nI_eq (by omega) (by omega)).mp e] at ho; exact ho, rfl, rfl⟩, hoc⟩, by rw [ht]; exact hP, va_K.moved hW.alike hK, hD⟩, hS.F ht⟩) hS.2.2 dX0_off_18
set_option maxHeartbeats 4000000 in
set_option maxRecDepth 100000 in
/-- on(x) -/
theorem cX0_on_ok (l : Launch) (dC : Nat → ClassId) (dI : Nat → Nat → Nat) (h a1 a2 a3 a4 a5 a6 a7 : Nat) (cI cL cZ : ClassId) (cnt onc : Nat) (fp sp : Nat → Nat) (mo : Nat → Int64) (on : Nat → Bool) (lf : Nat → Int64) (sf : Nat → Int32) (rp : Nat → Nat) (rs : Nat) (rl : Int64) (sz : Nat) (g : tn_good cnt fp sp mo) (ok : tn_ok (tn_E cnt fp sp mo on)) (hoc : onc = tn_cn on cnt) (x : Int32) : Met l yX0_on wsX0_on ({ frames := 5, cells := 0, slots := 0, locals := 118 }) (va_Pc [.ref h, .int x] (tn_Pre dC dI (tn_tys cI cL cZ) (tn_ws h a1 a2 a3 a4 a5 a6 a7 cI cL cZ cnt onc fp sp mo on lf sf rp rs rl) sz)) (va_Qi (S := tn_D × Nat × (Nat → Bool) × (Nat → Nat) × Nat × Int64) (fun r u => sp_on cnt fp sp mo on x r rp rs rl u.2.2.1 u.2.2.2.1 u.2.2.2.2.1 u.2.2.2.2.2 ∧ u.2.1 = tn_cn u.2.2.1 cnt) (fun u t => tn_at dC dI (tn_tys cI cL cZ) (va_A (tn_ws h a1 a2 a3 a4 a5 a6 a7 cI cL cZ cnt onc fp sp mo on lf sf rp rs rl) sz) (tn_ws h a1 a2 a3 a4 a5 a6 a7 cI cL cZ cnt u.2.1 fp sp mo u.2.2.1 u.1.1 u.1.2 u.2.2.2.1 u.2.2.2.2.1 u.2.2.2.2.2) t) (va_A (tn_ws h a1 a2 a3 a4 a5 a6 a7 cI cL cZ cnt onc fp sp mo on lf sf rp rs rl) sz)) 0 0 (va_A (tn_ws h a1 a2 a3 a4 a5 a6 a7 cI cL cZ cnt onc fp sp mo on lf sf rp rs rl) sz) := by
  refine Met.ofW (cc := cX0_on) (maxL := 2) (ret := (some .int)) (by decide) rfl ?_
  intro p e s m args below meth c s₁ B hml hv
  obtain ⟨rfl, hsz, hP, hK, hD0⟩ := hv
  have hx := B.exec
  have hb := B.bytes
  have hr := B.returns
  have hts := atoms_spec (ws := wsX0_on) B.pre
  have hown : s.vm.findClass RX0 = some m.cls := findClass_of_methodNamed B.named
  have hlocks := B.notSynchronized
  subst hsz
  have hD := hD0.self (sz := s.heap.size)
  generalize hAe : va_A (tn_ws h a1 a2 a3 a4 a5 a6 a7 cI cL cZ cnt onc fp sp mo on lf sf rp rs rl) s.heap.size = A at hD ⊢
  have hA : ∀ q : Nat, s.heap.size ≤ q → A q := fun q h => by rw [← hAe]; exact Or.inr h
  have hS : va_S A s.heap s.heap [] := va_S.rf
  have hl := lv_entry ([.ref h, .int x]) (n := 2) (Nat.le_of_ble_eq_true rfl)
  rw [lg_entry_eq]
  generalize (lg_sl ([.ref h, .int x]) ++ List.replicate (2 - (lg_sl ([.ref h, .int x])).length) Slot.unset).toArray = ls at hl ⊢
  have hl : lv_has ls 2 [(0, .ref h), (1, .int x)] := hl
  have kf20 := hts (.fieldLink RX0 20 "TimeNet" "isOn" "[Z") (by decide +kernel)
  have kf9 := hts (.fieldLink RX0 9 "TimeNet" "firstPoint" "[I") (by decide +kernel)
  have kf13 := hts (.fieldLink RX0 13 "TimeNet" "secondPoint" "[I") (by decide +kernel)
  have kf16 := hts (.fieldLink RX0 16 "TimeNet" "most" "[J") (by decide +kernel)
  have kf44 := hts (.fieldLink RX0 44 "TimeNet" "onCount" "I") (by decide +kernel)
  have hin : ∀ w ∈ u_ws RX0 TX0 11, w ∈ wsX0_on := by decide +kernel
  have hc := g.1
  refine lv_aload_n hx hb dX0_on_0 rfl (lv_at hl 0 rfl) ?_
  refine lv_iload_n hx hb dX0_on_1 rfl (lv_at hl 1 rfl) ?_
  have hF := tn_freeA hD hS hA
  refine va_calli (va_runV (As := [.int x]) (rest := []) ⟨hx, hb, hml, hown, hts⟩ (cX0_isNumber_ok l dC dI h a1 a2 a3 a4 a5 a6 a7 cI cL cZ cnt onc fp sp mo on lf sf rp rs rl s.heap.size hc x) (cwV 1 hts gX0_on_X0_isNumber rfl rfl rfl (by decide +kernel) ⟨Nat.le_of_ble_eq_true rfl, Nat.le_of_ble_eq_true rfl⟩) (tn_preV hK hP hD (ci := 0) rfl 0 rfl) rfl rfl hl.1 rfl (lv_room (Nat.le_of_ble_eq_true rfl)) dX0_on_2 ⟨Nat.le_of_ble_eq_true rfl, Nat.le_of_ble_eq_true rfl⟩) hS (fun q _ h => hF q h) hF (fun r_2 u_2 t H1 locs ht hvm hw_2 hB hz1 hk1 hS => ?_)
  obtain ⟨hP1, -, hD1⟩ := hB
  rw [ht] at hP1
  have hD := hD1.weaken (fun _ q _ hq => hF q.1 hq)
  clear hP hk1 hF hz1 ht hvm hD1
  generalize H1 = H at hP1 hS ⊢
  have hP := hP1
  clear hP1
  refine lv_if_eq (tgt := 17) hx hb dX0_on_5 (by decide) (fun c_5 => ?_) (fun c_5 => ?_)
  · skip
    have hn_2 : ∀ j, j < cnt → x ≠ nI j := by
      rcases hw_2 with ⟨q, _⟩ | ⟨_, q⟩
      · exact absurd (q ▸ c_5 : nI 1 = 0) (by decide)
      · exact q
    refine lv_iconst (v := (-1)) hx hb dX0_on_17 (by decide) ?_
    exact W.iret (v := (-1)) hx hb hr (fun t ht hW => ⟨⟨(-1), ((lf, sf), onc, on, rp, rs, rl), rfl, ⟨Or.inr ⟨fun k hk e => absurd e (hn_2 k hk), rfl, rfl, rfl, rfl, rfl⟩, hoc⟩, by rw [ht]; exact hP, va_K.moved hW.alike hK, hD⟩, hS.F ht⟩) hS.2.2 dX0_on_18
  · skip
    obtain ⟨k, hk, ex⟩ : ∃ j, j < cnt ∧ x = nI j := by
      rcases hw_2 with ⟨_, q⟩ | ⟨q, _⟩
      · exact q
      · exact absurd (q : r_2 = 0) c_5
    subst ex
    refine lv_aload_n hx hb dX0_on_8 rfl (lv_at hl 0 rfl) ?_
    refine va_get (D := (dC, dI)) (ci := 0) (v := .ref a4) (C := RX0) (T := TX0) (N := 11) hx hb hts hin hown hK hP 0 rfl rfl 3 (by decide) kf20 (fun _ h9 => h9) rfl dX0_on_9 ?_
    refine lv_iload_n hx hb dX0_on_12 rfl (lv_at hl 1 rfl) ?_
    refine tn_zald (i := k) (v := tn_b (on k)) hx hb hK hP 4 2 rfl rfl (by omega) (by decide) rfl dX0_on_13 ?_
    refine lv_if_eq (tgt := 19) hx hb dX0_on_14 (by decide) (fun c_14 => ?_) (fun c_14 => ?_)
    · skip
      have ho := tn_b_eq0 c_14
      have hk0 := (g.2 k hk).1
      have hk1 := (g.2 k hk).2.1
      refine lv_aload_n hx hb dX0_on_19 rfl (lv_at hl 0 rfl) ?_
      refine lv_aload_n hx hb dX0_on_20 rfl (lv_at hl 0 rfl) ?_
      refine va_get (D := (dC, dI)) (ci := 0) (v := .ref a1) (C := RX0) (T := TX0) (N := 11) hx hb hts hin hown hK hP 0 rfl rfl 0 (by decide) kf9 (fun _ h9 => h9) rfl dX0_on_21 ?_
      refine lv_iload_n hx hb dX0_on_24 rfl (lv_at hl 1 rfl) ?_
      refine tn_iald (i := k) (v := nI (fp k)) hx hb hK hP 1 0 rfl rfl (by omega) (by decide) rfl dX0_on_25 ?_
      refine lv_aload_n hx hb dX0_on_26 rfl (lv_at hl 0 rfl) ?_
      refine va_get (D := (dC, dI)) (ci := 0) (v := .ref a2) (C := RX0) (T := TX0) (N := 11) hx hb hts hin hown hK hP 0 rfl rfl 1 (by decide) kf13 (fun _ h9 => h9) rfl dX0_on_27 ?_
      refine lv_iload_n hx hb dX0_on_30 rfl (lv_at hl 1 rfl) ?_
      refine tn_iald (i := k) (v := nI (sp k)) hx hb hK hP 2 0 rfl rfl (by omega) (by decide) rfl dX0_on_31 ?_
      refine lv_aload_n hx hb dX0_on_32 rfl (lv_at hl 0 rfl) ?_
      refine va_get (D := (dC, dI)) (ci := 0) (v := .ref a3) (C := RX0) (T := TX0) (N := 11) hx hb hts hin hown hK hP 0 rfl rfl 2 (by decide) kf16 (fun _ h9 => h9) rfl dX0_on_33 ?_
      refine lv_iload_n hx hb dX0_on_36 rfl (lv_at hl 1 rfl) ?_
      refine tn_lald (i := k) (v := mo k) hx hb hK hP 3 1 rfl rfl (by omega) (by decide) rfl dX0_on_37 ?_
      have hF := tn_freeA hD hS hA
      refine va_calli (va_runV (As := [.int (nI (fp k)), .int (nI (sp k)), .long (mo k)]) (rest := []) ⟨hx, hb, hml, hown, hts⟩ (cX0_refuse_ok l dC dI h a1 a2 a3 a4 a5 a6 a7 cI cL cZ cnt onc fp sp mo on lf sf rp rs rl H.size g ok (fp k) hk0 (sp k) hk1 (mo k) (g.2 k hk).2.2.1 (g.2 k hk).2.2.2) (cwV 3 hts gX0_on_X0_refuse rfl rfl rfl (by decide +kernel) ⟨Nat.le_of_ble_eq_true rfl, Nat.le_of_ble_eq_true rfl⟩) (tn_preV hK hP hD (ci := 0) rfl 0 rfl) rfl rfl hl.1 rfl (lv_room (Nat.le_of_ble_eq_true rfl)) dX0_on_38 ⟨Nat.le_of_ble_eq_true rfl, Nat.le_of_ble_eq_true rfl⟩) hS (fun q _ h => hF q h) hF (fun r_38 u_38 t H1 locs ht hvm hw_38 hB hz1 hk1 hS => ?_)
      obtain ⟨hP1, -, hD1⟩ := hB
      rw [ht] at hP1
      have hD := hD1.weaken (fun _ q _ hq => hF q.1 hq)
      clear hP hk1 hF hz1 ht hvm hD1
      generalize H1 = H at hP1 hS ⊢
      have hP := hP1
      clear hP1
      refine lv_if_eq (tgt := 47) hx hb dX0_on_41 (by decide) (fun c_41 => ?_) (fun c_41 => ?_)
      · skip
        have hr0 : r_38 = nI 0 := c_41
        refine lv_aload_n hx hb dX0_on_47 rfl (lv_at hl 0 rfl) ?_
        refine va_get (D := (dC, dI)) (ci := 0) (v := .ref a4) (C := RX0) (T := TX0) (N := 11) hx hb hts hin hown hK hP 0 rfl rfl 3 (by decide) kf20 (fun _ h9 => h9) rfl dX0_on_48 ?_
        refine lv_iload_n hx hb dX0_on_51 rfl (lv_at hl 1 rfl) ?_
        refine lv_iconst (v := nI 1) hx hb dX0_on_52 (by decide) ?_
        refine tn_zast (i := k) (f' := (fun zz => tn_b (va_up on k true zz))) hx hb hK hP hD hS 4 2 rfl rfl (by omega) (by decide) (tn_updB on k true) dX0_on_53 (fun H locs hP hD hS => ?_)
        have hP : va_P (dC, dI) vwCl (tn_ws h a1 a2 a3 a4 a5 a6 a7 cI cL cZ cnt onc fp sp mo (va_up on k true) u_38.1.1 u_38.1.2 u_38.2.1 u_38.2.2.1 u_38.2.2.2) H := hP
        have hD : va_D A (tn_ws h a1 a2 a3 a4 a5 a6 a7 cI cL cZ cnt onc fp sp mo (va_up on k true) u_38.1.1 u_38.1.2 u_38.2.1 u_38.2.2.1 u_38.2.2.2) := hD
        refine lv_aload_n hx hb dX0_on_54 rfl (lv_at hl 0 rfl) ?_
        refine lv_dup hx hb dX0_on_55 rfl ?_
        refine va_get (D := (dC, dI)) (ci := 0) (v := .int (nI onc)) (C := RX0) (T := TX0) (N := 11) hx hb hts hin hown hK hP 0 rfl rfl 5 (by decide) kf44 (fun _ h9 => h9) rfl dX0_on_56 ?_
        refine lv_iconst (v := nI 1) hx hb dX0_on_59 (by decide) ?_
        refine tn_iadd (a := onc) (b := 1) hx hb dX0_on_60 ?_
        refine va_put (D := (dC, dI)) (ci := 0) (v := .int (nI (onc + 1))) (ty := .int) (C := RX0) (T := TX0) (N := 11) hx hb hts hin tyX0 tyX0_ok nmX0 hown hK hP hD hS 0 rfl rfl 5 (by decide) kf44 (fun _ h9 => h9) rfl (by decide +kernel) rfl rfl (Nat.le_of_ble_eq_true rfl) dX0_on_61 (fun H locs hP hD hS => ?_)
        have hP : va_P (dC, dI) vwCl (tn_ws h a1 a2 a3 a4 a5 a6 a7 cI cL cZ cnt (onc + 1) fp sp mo (va_up on k true) u_38.1.1 u_38.1.2 u_38.2.1 u_38.2.2.1 u_38.2.2.2) H := hP
        have hD : va_D A (tn_ws h a1 a2 a3 a4 a5 a6 a7 cI cL cZ cnt (onc + 1) fp sp mo (va_up on k true) u_38.1.1 u_38.1.2 u_38.2.1 u_38.2.2.1 u_38.2.2.2) := hD
        refine lv_iload_n hx hb dX0_on_64 rfl (lv_at hl 1 rfl) ?_
        exact W.iret (v := nI k) hx hb hr (fun t ht hW => ⟨⟨nI k, ((u_38.1.1, u_38.1.2), (onc + 1), va_up on k true, u_38.2.1, u_38.2.2.1, u_38.2.2.2), rfl, ⟨Or.inl ⟨k, r_38, hk, rfl, ho, hw_38, Or.inr ⟨hr0, rfl, rfl⟩⟩, by have := tn_cn_on hk ho; show onc + 1 = tn_cn (va_up on k true) cnt; omega⟩, by rw [ht]; exact hP, va_K.moved hW.alike hK, hD⟩, hS.F ht⟩) hS.2.2 dX0_on_65
      · skip
        have hr1 : r_38 = nI 1 := by
          rcases hw_38 with ⟨_, _, _, _, _, q, _⟩ | ⟨_, q, _⟩
          · exact q
          · exact absurd (q : r_38 = 0) c_41
        refine lv_bipush (v := (-2)) hx hb dX0_on_44 (by decide) ?_
        exact W.iret (v := (-2)) hx hb hr (fun t ht hW => ⟨⟨(-2), ((u_38.1.1, u_38.1.2), onc, on, u_38.2.1, u_38.2.2.1, u_38.2.2.2), rfl, ⟨Or.inl ⟨k, r_38, hk, rfl, ho, hw_38, Or.inl ⟨hr1, rfl, rfl⟩⟩, hoc⟩, by rw [ht]; exact hP, va_K.moved hW.alike hK, hD⟩, hS.F ht⟩) hS.2.2 dX0_on_46
    · skip
      have ho := tn_b_ne0 c_14
      refine lv_iconst (v := (-1)) hx hb dX0_on_17 (by decide) ?_
      exact W.iret (v := (-1)) hx hb hr (fun t ht hW => ⟨⟨(-1), ((lf, sf), onc, on, rp, rs, rl), rfl, ⟨Or.inr ⟨fun k2 hk2 e => by rw [(nI_eq (by omega) (by omega)).mp e] at ho; exact ho, rfl, rfl, rfl, rfl, rfl⟩, hoc⟩, by rw [ht]; exact hP, va_K.moved hW.alike hK, hD⟩, hS.F ht⟩) hS.2.2 dX0_on_18
set_option maxHeartbeats 4000000 in
set_option maxRecDepth 100000 in
/-- steps(x, y) -/
theorem cX0_steps_ok (l : Launch) (dC : Nat → ClassId) (dI : Nat → Nat → Nat) (h a1 a2 a3 a4 a5 a6 a7 : Nat) (cI cL cZ : ClassId) (cnt onc : Nat) (fp sp : Nat → Nat) (mo : Nat → Int64) (on : Nat → Bool) (lf : Nat → Int64) (sf : Nat → Int32) (rp : Nat → Nat) (rs : Nat) (rl : Int64) (sz : Nat) (g : tn_good cnt fp sp mo) (ok : tn_ok (tn_E cnt fp sp mo on)) (x y : Int32) : Met l yX0_steps wsX0_steps ({ frames := 4, cells := 0, slots := 0, locals := 94 }) (va_Pc [.ref h, .int x, .int y] (tn_Pre dC dI (tn_tys cI cL cZ) (tn_ws h a1 a2 a3 a4 a5 a6 a7 cI cL cZ cnt onc fp sp mo on lf sf rp rs rl) sz)) (va_Qi (S := tn_D) (fun r _ => sp_steps (tn_E cnt fp sp mo on) x y r) (fun u t => tn_at dC dI (tn_tys cI cL cZ) (va_A (tn_ws h a1 a2 a3 a4 a5 a6 a7 cI cL cZ cnt onc fp sp mo on lf sf rp rs rl) sz) (tn_ws h a1 a2 a3 a4 a5 a6 a7 cI cL cZ cnt onc fp sp mo on u.1 u.2 rp rs rl) t) (va_A (tn_ws h a1 a2 a3 a4 a5 a6 a7 cI cL cZ cnt onc fp sp mo on lf sf rp rs rl) sz)) 0 0 (va_A (tn_ws h a1 a2 a3 a4 a5 a6 a7 cI cL cZ cnt onc fp sp mo on lf sf rp rs rl) sz) := by
  refine Met.ofW (cc := cX0_steps) (maxL := 3) (ret := (some .int)) (by decide) rfl ?_
  intro p e s m args below meth c s₁ B hml hv
  obtain ⟨rfl, hsz, hP, hK, hD0⟩ := hv
  have hx := B.exec
  have hb := B.bytes
  have hr := B.returns
  have hts := atoms_spec (ws := wsX0_steps) B.pre
  have hown : s.vm.findClass RX0 = some m.cls := findClass_of_methodNamed B.named
  have hlocks := B.notSynchronized
  subst hsz
  have hD := hD0.self (sz := s.heap.size)
  generalize hAe : va_A (tn_ws h a1 a2 a3 a4 a5 a6 a7 cI cL cZ cnt onc fp sp mo on lf sf rp rs rl) s.heap.size = A at hD ⊢
  have hA : ∀ q : Nat, s.heap.size ≤ q → A q := fun q h => by rw [← hAe]; exact Or.inr h
  have hS : va_S A s.heap s.heap [] := va_S.rf
  have hl := lv_entry ([.ref h, .int x, .int y]) (n := 3) (Nat.le_of_ble_eq_true rfl)
  rw [lg_entry_eq]
  generalize (lg_sl ([.ref h, .int x, .int y]) ++ List.replicate (3 - (lg_sl ([.ref h, .int x, .int y])).length) Slot.unset).toArray = ls at hl ⊢
  have hl : lv_has ls 3 [(0, .ref h), (1, .int x), (2, .int y)] := hl
  have kf27 := hts (.fieldLink RX0 27 "TimeNet" "stepsFrom" "[I") (by decide +kernel)
  have hin : ∀ w ∈ u_ws RX0 TX0 11, w ∈ wsX0_steps := by decide +kernel
  have hc := g.1
  refine lv_aload_n hx hb dX0_steps_0 rfl (lv_at hl 0 rfl) ?_
  refine lv_iload_n hx hb dX0_steps_1 rfl (lv_at hl 1 rfl) ?_
  refine lv_iload_n hx hb dX0_steps_2 rfl (lv_at hl 2 rfl) ?_
  have hF := tn_freeA hD hS hA
  refine va_calli (va_runV (As := [.int x, .int y]) (rest := []) ⟨hx, hb, hml, hown, hts⟩ (cX0_findPath_ok l dC dI h a1 a2 a3 a4 a5 a6 a7 cI cL cZ cnt onc fp sp mo on lf sf rp rs rl s.heap.size g x y) (cwV 2 hts gX0_steps_X0_findPath rfl rfl rfl (by decide +kernel) ⟨Nat.le_of_ble_eq_true rfl, Nat.le_of_ble_eq_true rfl⟩) (tn_preV hK hP hD (ci := 0) rfl 0 rfl) rfl rfl hl.1 rfl (lv_room (Nat.le_of_ble_eq_true rfl)) dX0_steps_3 ⟨Nat.le_of_ble_eq_true rfl, Nat.le_of_ble_eq_true rfl⟩) hS (fun q _ h => hF q h) hF (fun r_3 u_3 t H1 locs ht hvm hw_3 hB hz1 hk1 hS => ?_)
  obtain ⟨hP1, -, hD1⟩ := hB
  rw [ht] at hP1
  have hD := hD1.weaken (fun _ q _ hq => hF q.1 hq)
  clear hP hk1 hF hz1 ht hvm hD1
  generalize H1 = H at hP1 hS ⊢
  have hP := hP1
  clear hP1
  refine lv_if_eq (tgt := 18) hx hb dX0_steps_6 (by decide) (fun c_6 => ?_) (fun c_6 => ?_)
  · skip
    have hno : ∀ a b, a < 20 → b < 20 → x = nI a → y = nI b → ∀ n L, ¬ tn_wk (tn_E cnt fp sp mo on) n a b L := by
      intro a b ha hb2 ex ey
      rcases hw_3 with ⟨a', b', ha', hb', ex', ey', hu, q⟩ | ⟨q, _⟩
      · rcases q with ⟨_, q⟩ | ⟨q, _⟩
        · have e1 := (nI_eq (by omega) (by omega)).mp (ex.symm.trans ex')
          have e2 := (nI_eq (by omega) (by omega)).mp (ey.symm.trans ey')
          subst e1; subst e2
          exact tn_mok_n (tn_ms_ok g ok hb2 hu) ha q
        · exact absurd (q ▸ c_6 : nI 1 = 0) (by decide)
      · exact absurd ⟨ex, ey⟩ (q a b ha hb2)
    refine lv_iconst (v := (-1)) hx hb dX0_steps_18 (by decide) ?_
    exact W.iret (v := (-1)) hx hb hr (fun t ht hW => ⟨⟨(-1), (u_3.1, u_3.2), rfl, Or.inr ⟨hno, rfl⟩, by rw [ht]; exact hP, va_K.moved hW.alike hK, hD⟩, hS.F ht⟩) hS.2.2 dX0_steps_19
  · skip
    obtain ⟨a, b, ha, hb', ex, ey, hms, hz⟩ : ∃ a b, a < 20 ∧ b < 20 ∧ x = nI a ∧ y = nI b ∧ tn_mok (tn_E cnt fp sp mo on) b u_3 ∧ u_3.1 a ≠ tn_MX := by
      rcases hw_3 with ⟨a, b, ha, hb2, ex, ey, hu, q⟩ | ⟨_, q, _⟩
      · rcases q with ⟨q, _⟩ | ⟨_, q⟩
        · exact absurd (q : r_3 = 0) c_6
        · exact ⟨a, b, ha, hb2, ex, ey, tn_ms_ok g ok hb2 hu, q⟩
      · exact absurd (q : r_3 = 0) c_6
    subst ex
    subst ey
    obtain ⟨n0, hn0, hsn, hbe⟩ := tn_mok_f hms ha hz
    refine lv_aload_n hx hb dX0_steps_9 rfl (lv_at hl 0 rfl) ?_
    refine va_get (D := (dC, dI)) (ci := 0) (v := .ref a6) (C := RX0) (T := TX0) (N := 11) hx hb hts hin hown hK hP 0 rfl rfl 7 (by decide) kf27 (fun _ h9 => h9) rfl dX0_steps_10 ?_
    refine lv_iload_n hx hb dX0_steps_13 rfl (lv_at hl 1 rfl) ?_
    refine tn_iald (i := a) (v := nI n0) hx hb hK hP 6 0 rfl rfl (by omega) (by decide) hsn dX0_steps_14 ?_
    refine lv_goto (tgt := 19) hx hb dX0_steps_15 (by decide) ?_
    exact W.iret (v := nI n0) hx hb hr (fun t ht hW => ⟨⟨nI n0, (u_3.1, u_3.2), rfl, Or.inl ⟨a, b, _, n0, ha, hb', rfl, rfl, hbe, rfl⟩, by rw [ht]; exact hP, va_K.moved hW.alike hK, hD⟩, hS.F ht⟩) hS.2.2 dX0_steps_19
set_option maxHeartbeats 4000000 in
set_option maxRecDepth 100000 in
/-- path(x, y) -/
theorem cX0_path_ok (l : Launch) (dC : Nat → ClassId) (dI : Nat → Nat → Nat) (h a1 a2 a3 a4 a5 a6 a7 : Nat) (cI cL cZ : ClassId) (cnt onc : Nat) (fp sp : Nat → Nat) (mo : Nat → Int64) (on : Nat → Bool) (lf : Nat → Int64) (sf : Nat → Int32) (rp : Nat → Nat) (rs : Nat) (rl : Int64) (sz : Nat) (g : tn_good cnt fp sp mo) (ok : tn_ok (tn_E cnt fp sp mo on)) (x y : Int32) : Met l yX0_path wsX0_path ({ frames := 4, cells := 0, slots := 0, locals := 94 }) (va_Pc [.ref h, .int x, .int y] (tn_Pre dC dI (tn_tys cI cL cZ) (tn_ws h a1 a2 a3 a4 a5 a6 a7 cI cL cZ cnt onc fp sp mo on lf sf rp rs rl) sz)) (va_Qi (S := tn_D × (Nat → Nat) × Nat × Int64) (fun r u => sp_path (tn_E cnt fp sp mo on) x y r rp rs rl u.2.1 u.2.2.1 u.2.2.2) (fun u t => tn_at dC dI (tn_tys cI cL cZ) (va_A (tn_ws h a1 a2 a3 a4 a5 a6 a7 cI cL cZ cnt onc fp sp mo on lf sf rp rs rl) sz) (tn_ws h a1 a2 a3 a4 a5 a6 a7 cI cL cZ cnt onc fp sp mo on u.1.1 u.1.2 u.2.1 u.2.2.1 u.2.2.2) t) (va_A (tn_ws h a1 a2 a3 a4 a5 a6 a7 cI cL cZ cnt onc fp sp mo on lf sf rp rs rl) sz)) 0 0 (va_A (tn_ws h a1 a2 a3 a4 a5 a6 a7 cI cL cZ cnt onc fp sp mo on lf sf rp rs rl) sz) := by
  refine Met.ofW (cc := cX0_path) (maxL := 3) (ret := (some .int)) (by decide) rfl ?_
  intro p e s m args below meth c s₁ B hml hv
  obtain ⟨rfl, hsz, hP, hK, hD0⟩ := hv
  have hx := B.exec
  have hb := B.bytes
  have hr := B.returns
  have hts := atoms_spec (ws := wsX0_path) B.pre
  have hown : s.vm.findClass RX0 = some m.cls := findClass_of_methodNamed B.named
  have hlocks := B.notSynchronized
  subst hsz
  have hD := hD0.self (sz := s.heap.size)
  generalize hAe : va_A (tn_ws h a1 a2 a3 a4 a5 a6 a7 cI cL cZ cnt onc fp sp mo on lf sf rp rs rl) s.heap.size = A at hD ⊢
  have hA : ∀ q : Nat, s.heap.size ≤ q → A q := fun q h => by rw [← hAe]; exact Or.inr h
  have hS : va_S A s.heap s.heap [] := va_S.rf
  have hl := lv_entry ([.ref h, .int x, .int y]) (n := 3) (Nat.le_of_ble_eq_true rfl)
  rw [lg_entry_eq]
  generalize (lg_sl ([.ref h, .int x, .int y]) ++ List.replicate (3 - (lg_sl ([.ref h, .int x, .int y])).length) Slot.unset).toArray = ls at hl ⊢
  have hl : lv_has ls 3 [(0, .ref h), (1, .int x), (2, .int y)] := hl
  have kf65 := hts (.fieldLink RX0 65 "TimeNet" "rowSize" "I") (by decide +kernel)
  have kf24 := hts (.fieldLink RX0 24 "TimeNet" "lengthFrom" "[J") (by decide +kernel)
  have kf71 := hts (.fieldLink RX0 71 "TimeNet" "rowLength" "J") (by decide +kernel)
  have hin : ∀ w ∈ u_ws RX0 TX0 11, w ∈ wsX0_path := by decide +kernel
  have hc := g.1
  refine lv_aload_n hx hb dX0_path_0 rfl (lv_at hl 0 rfl) ?_
  refine lv_iload_n hx hb dX0_path_1 rfl (lv_at hl 1 rfl) ?_
  refine lv_iload_n hx hb dX0_path_2 rfl (lv_at hl 2 rfl) ?_
  have hF := tn_freeA hD hS hA
  refine va_calli (va_runV (As := [.int x, .int y]) (rest := []) ⟨hx, hb, hml, hown, hts⟩ (cX0_findPath_ok l dC dI h a1 a2 a3 a4 a5 a6 a7 cI cL cZ cnt onc fp sp mo on lf sf rp rs rl s.heap.size g x y) (cwV 2 hts gX0_path_X0_findPath rfl rfl rfl (by decide +kernel) ⟨Nat.le_of_ble_eq_true rfl, Nat.le_of_ble_eq_true rfl⟩) (tn_preV hK hP hD (ci := 0) rfl 0 rfl) rfl rfl hl.1 rfl (lv_room (Nat.le_of_ble_eq_true rfl)) dX0_path_3 ⟨Nat.le_of_ble_eq_true rfl, Nat.le_of_ble_eq_true rfl⟩) hS (fun q _ h => hF q h) hF (fun r_3 u_3 t H1 locs ht hvm hw_3 hB hz1 hk1 hS => ?_)
  obtain ⟨hP1, -, hD1⟩ := hB
  rw [ht] at hP1
  have hD := hD1.weaken (fun _ q _ hq => hF q.1 hq)
  clear hP hk1 hF hz1 ht hvm hD1
  generalize H1 = H at hP1 hS ⊢
  have hP := hP1
  clear hP1
  refine lv_if_ne (tgt := 11) hx hb dX0_path_6 (by decide) (fun c_6 => ?_) (fun c_6 => ?_)
  · skip
    obtain ⟨a, b, ha, hb', ex, ey, hms, hz⟩ : ∃ a b, a < 20 ∧ b < 20 ∧ x = nI a ∧ y = nI b ∧ tn_mok (tn_E cnt fp sp mo on) b u_3 ∧ u_3.1 a ≠ tn_MX := by
      rcases hw_3 with ⟨a, b, ha, hb2, ex, ey, hu, q⟩ | ⟨_, q, _⟩
      · rcases q with ⟨q, _⟩ | ⟨_, q⟩
        · exact absurd (q : r_3 = 0) c_6
        · exact ⟨a, b, ha, hb2, ex, ey, tn_ms_ok g ok hb2 hu, q⟩
      · exact absurd (q : r_3 = 0) c_6
    subst ex
    subst ey
    obtain ⟨n0, hn0, hsn, hbe⟩ := tn_mok_f hms ha hz
    refine lv_aload_n hx hb dX0_path_11 rfl (lv_at hl 0 rfl) ?_
    refine lv_iconst (v := nI 0) hx hb dX0_path_12 (by decide) ?_
    refine va_put (D := (dC, dI)) (ci := 0) (v := .int (nI 0)) (ty := .int) (C := RX0) (T := TX0) (N := 11) hx hb hts hin tyX0 tyX0_ok nmX0 hown hK hP hD hS 0 rfl rfl 9 (by decide) kf65 (fun _ h9 => h9) rfl (by decide +kernel) rfl rfl (Nat.le_of_ble_eq_true rfl) dX0_path_13 (fun H locs hP hD hS => ?_)
    have hP : va_P (dC, dI) vwCl (tn_ws h a1 a2 a3 a4 a5 a6 a7 cI cL cZ cnt onc fp sp mo on u_3.1 u_3.2 rp 0 rl) H := hP
    have hD : va_D A (tn_ws h a1 a2 a3 a4 a5 a6 a7 cI cL cZ cnt onc fp sp mo on u_3.1 u_3.2 rp 0 rl) := hD
    refine lv_aload_n hx hb dX0_path_16 rfl (lv_at hl 0 rfl) ?_
    refine lv_iload_n hx hb dX0_path_17 rfl (lv_at hl 1 rfl) ?_
    have hF := tn_freeA hD hS hA
    refine va_callv (va_runV (As := [.int (nI a)]) (rest := []) ⟨hx, hb, hml, hown, hts⟩ (cX0_appendBestFrom_ok l dC dI h a1 a2 a3 a4 a5 a6 a7 cI cL cZ cnt onc fp sp mo on u_3.1 u_3.2 rp 0 rl H.size g a ha n0 hsn (by omega)) (cwV 1 hts gX0_path_X0_appendBestFrom rfl rfl rfl (by decide +kernel) ⟨Nat.le_of_ble_eq_true rfl, Nat.le_of_ble_eq_true rfl⟩) (tn_preV hK hP hD (ci := 0) rfl 0 rfl) rfl rfl hl.1 rfl (lv_room (Nat.le_of_ble_eq_true rfl)) dX0_path_18 ⟨Nat.le_of_ble_eq_true rfl, Nat.le_of_ble_eq_true rfl⟩) hS (fun q _ h => hF q h) hF (fun u_18 t H1 locs ht hvm hw_18 hB hz1 hk1 hS => ?_)
    obtain ⟨hP1, -, hD1⟩ := hB
    rw [ht] at hP1
    have hD := hD1.weaken (fun _ q _ hq => hF q.1 hq)
    clear hP hk1 hF hz1 ht hvm hD1
    generalize H1 = H at hP1 hS ⊢
    have hP := hP1
    clear hP1
    refine lv_aload_n hx hb dX0_path_21 rfl (lv_at hl 0 rfl) ?_
    refine lv_aload_n hx hb dX0_path_22 rfl (lv_at hl 0 rfl) ?_
    refine va_get (D := (dC, dI)) (ci := 0) (v := .ref a5) (C := RX0) (T := TX0) (N := 11) hx hb hts hin hown hK hP 0 rfl rfl 6 (by decide) kf24 (fun _ h9 => h9) rfl dX0_path_23 ?_
    refine lv_iload_n hx hb dX0_path_26 rfl (lv_at hl 1 rfl) ?_
    refine tn_lald (i := a) (v := u_3.1 a) hx hb hK hP 5 1 rfl rfl (by omega) (by decide) rfl dX0_path_27 ?_
    refine va_put (D := (dC, dI)) (ci := 0) (v := .long (u_3.1 a)) (ty := .long) (C := RX0) (T := TX0) (N := 11) hx hb hts hin tyX0 tyX0_ok nmX0 hown hK hP hD hS 0 rfl rfl 10 (by decide) kf71 (fun _ h9 => h9) rfl (by decide +kernel) rfl rfl (Nat.le_of_ble_eq_true rfl) dX0_path_28 (fun H locs hP hD hS => ?_)
    have hP : va_P (dC, dI) vwCl (tn_ws h a1 a2 a3 a4 a5 a6 a7 cI cL cZ cnt onc fp sp mo on u_3.1 u_3.2 u_18.1 u_18.2 (u_3.1 a)) H := hP
    have hD : va_D A (tn_ws h a1 a2 a3 a4 a5 a6 a7 cI cL cZ cnt onc fp sp mo on u_3.1 u_3.2 u_18.1 u_18.2 (u_3.1 a)) := hD
    refine lv_aload_n hx hb dX0_path_31 rfl (lv_at hl 0 rfl) ?_
    refine va_get (D := (dC, dI)) (ci := 0) (v := .int (nI u_18.2)) (C := RX0) (T := TX0) (N := 11) hx hb hts hin hown hK hP 0 rfl rfl 9 (by decide) kf65 (fun _ h9 => h9) rfl dX0_path_32 ?_
    exact W.iret (v := nI u_18.2) hx hb hr (fun t ht hW => ⟨⟨nI u_18.2, ((u_3.1, u_3.2), u_18.1, u_18.2, u_3.1 a), rfl, tn_path_yes g ha hb' hms hn0 hbe rp rs rl hw_18, by rw [ht]; exact hP, va_K.moved hW.alike hK, hD⟩, hS.F ht⟩) hS.2.2 dX0_path_35
  · skip
    have hno : ∀ a b, a < 20 → b < 20 → x = nI a → y = nI b → ∀ n L, ¬ tn_wk (tn_E cnt fp sp mo on) n a b L := by
      intro a b ha hb2 ex ey
      rcases hw_3 with ⟨a', b', ha', hb', ex', ey', hu, q⟩ | ⟨q, _⟩
      · rcases q with ⟨_, q⟩ | ⟨q, _⟩
        · have e1 := (nI_eq (by omega) (by omega)).mp (ex.symm.trans ex')
          have e2 := (nI_eq (by omega) (by omega)).mp (ey.symm.trans ey')
          subst e1; subst e2
          exact tn_mok_n (tn_ms_ok g ok hb2 hu) ha q
        · exact absurd (q ▸ c_6 : nI 1 = 0) (by decide)
      · exact absurd ⟨ex, ey⟩ (q a b ha hb2)
    refine lv_iconst (v := (-1)) hx hb dX0_path_9 (by decide) ?_
    exact W.iret (v := (-1)) hx hb hr (fun t ht hW => ⟨⟨(-1), ((u_3.1, u_3.2), rp, rs, rl), rfl, Or.inr ⟨hno, rfl, rfl, rfl, rfl⟩, by rw [ht]; exact hP, va_K.moved hW.alike hK, hD⟩, hS.F ht⟩) hS.2.2 dX0_path_10
set_option maxHeartbeats 4000000 in
set_option maxRecDepth 100000 in
/-- row() -/
theorem cX0_row_ok (l : Launch) (dC : Nat → ClassId) (dI : Nat → Nat → Nat) (h a1 a2 a3 a4 a5 a6 a7 : Nat) (cI cL cZ : ClassId) (cnt onc : Nat) (fp sp : Nat → Nat) (mo : Nat → Int64) (on : Nat → Bool) (lf : Nat → Int64) (sf : Nat → Int32) (rp : Nat → Nat) (rs : Nat) (rl : Int64) (sz : Nat)  : Met l yX0_row wsX0_row ({ frames := 0, cells := 0, slots := 0, locals := 0 }) (va_Pc [.ref h] (tn_Pre dC dI (tn_tys cI cL cZ) (tn_ws h a1 a2 a3 a4 a5 a6 a7 cI cL cZ cnt onc fp sp mo on lf sf rp rs rl) sz)) (va_Qi (S := Unit) (fun r _ => r = nI rs) (fun u t => tn_at dC dI (tn_tys cI cL cZ) (va_A (tn_ws h a1 a2 a3 a4 a5 a6 a7 cI cL cZ cnt onc fp sp mo on lf sf rp rs rl) sz) (tn_ws h a1 a2 a3 a4 a5 a6 a7 cI cL cZ cnt onc fp sp mo on lf sf rp rs rl) t) (va_A (tn_ws h a1 a2 a3 a4 a5 a6 a7 cI cL cZ cnt onc fp sp mo on lf sf rp rs rl) sz)) 0 0 (va_A (tn_ws h a1 a2 a3 a4 a5 a6 a7 cI cL cZ cnt onc fp sp mo on lf sf rp rs rl) sz) := by
  refine Met.ofW (cc := cX0_row) (maxL := 1) (ret := (some .int)) (by decide) rfl ?_
  intro p e s m args below meth c s₁ B hml hv
  obtain ⟨rfl, hsz, hP, hK, hD0⟩ := hv
  have hx := B.exec
  have hb := B.bytes
  have hr := B.returns
  have hts := atoms_spec (ws := wsX0_row) B.pre
  have hown : s.vm.findClass RX0 = some m.cls := findClass_of_methodNamed B.named
  have hlocks := B.notSynchronized
  subst hsz
  have hD := hD0.self (sz := s.heap.size)
  generalize hAe : va_A (tn_ws h a1 a2 a3 a4 a5 a6 a7 cI cL cZ cnt onc fp sp mo on lf sf rp rs rl) s.heap.size = A at hD ⊢
  have hA : ∀ q : Nat, s.heap.size ≤ q → A q := fun q h => by rw [← hAe]; exact Or.inr h
  have hS : va_S A s.heap s.heap [] := va_S.rf
  have hl := lv_entry ([.ref h]) (n := 1) (Nat.le_of_ble_eq_true rfl)
  rw [lg_entry_eq]
  generalize (lg_sl ([.ref h]) ++ List.replicate (1 - (lg_sl ([.ref h])).length) Slot.unset).toArray = ls at hl ⊢
  have hl : lv_has ls 1 [(0, .ref h)] := hl
  have kf65 := hts (.fieldLink RX0 65 "TimeNet" "rowSize" "I") (by decide +kernel)
  have hin : ∀ w ∈ u_ws RX0 TX0 11, w ∈ wsX0_row := by decide +kernel
  refine lv_aload_n hx hb dX0_row_0 rfl (lv_at hl 0 rfl) ?_
  refine va_get (D := (dC, dI)) (ci := 0) (v := .int (nI rs)) (C := RX0) (T := TX0) (N := 11) hx hb hts hin hown hK hP 0 rfl rfl 9 (by decide) kf65 (fun _ h9 => h9) rfl dX0_row_1 ?_
  exact W.iret (v := nI rs) hx hb hr (fun t ht hW => ⟨⟨nI rs, (), rfl, rfl, by rw [ht]; exact hP, va_K.moved hW.alike hK, hD⟩, hS.F ht⟩) hS.2.2 dX0_row_4
set_option maxHeartbeats 4000000 in
set_option maxRecDepth 100000 in
/-- length() -/
theorem cX0_length_ok (l : Launch) (dC : Nat → ClassId) (dI : Nat → Nat → Nat) (h a1 a2 a3 a4 a5 a6 a7 : Nat) (cI cL cZ : ClassId) (cnt onc : Nat) (fp sp : Nat → Nat) (mo : Nat → Int64) (on : Nat → Bool) (lf : Nat → Int64) (sf : Nat → Int32) (rp : Nat → Nat) (rs : Nat) (rl : Int64) (sz : Nat)  : Met l yX0_length wsX0_length ({ frames := 0, cells := 0, slots := 0, locals := 0 }) (va_Pc [.ref h] (tn_Pre dC dI (tn_tys cI cL cZ) (tn_ws h a1 a2 a3 a4 a5 a6 a7 cI cL cZ cnt onc fp sp mo on lf sf rp rs rl) sz)) (va_Ql (S := Unit) (fun r _ => r = rl) (fun u t => tn_at dC dI (tn_tys cI cL cZ) (va_A (tn_ws h a1 a2 a3 a4 a5 a6 a7 cI cL cZ cnt onc fp sp mo on lf sf rp rs rl) sz) (tn_ws h a1 a2 a3 a4 a5 a6 a7 cI cL cZ cnt onc fp sp mo on lf sf rp rs rl) t) (va_A (tn_ws h a1 a2 a3 a4 a5 a6 a7 cI cL cZ cnt onc fp sp mo on lf sf rp rs rl) sz)) 0 0 (va_A (tn_ws h a1 a2 a3 a4 a5 a6 a7 cI cL cZ cnt onc fp sp mo on lf sf rp rs rl) sz) := by
  refine Met.ofW (cc := cX0_length) (maxL := 1) (ret := (some .long)) (by decide) rfl ?_
  intro p e s m args below meth c s₁ B hml hv
  obtain ⟨rfl, hsz, hP, hK, hD0⟩ := hv
  have hx := B.exec
  have hb := B.bytes
  have hr := B.returns
  have hts := atoms_spec (ws := wsX0_length) B.pre
  have hown : s.vm.findClass RX0 = some m.cls := findClass_of_methodNamed B.named
  have hlocks := B.notSynchronized
  subst hsz
  have hD := hD0.self (sz := s.heap.size)
  generalize hAe : va_A (tn_ws h a1 a2 a3 a4 a5 a6 a7 cI cL cZ cnt onc fp sp mo on lf sf rp rs rl) s.heap.size = A at hD ⊢
  have hA : ∀ q : Nat, s.heap.size ≤ q → A q := fun q h => by rw [← hAe]; exact Or.inr h
  have hS : va_S A s.heap s.heap [] := va_S.rf
  have hl := lv_entry ([.ref h]) (n := 1) (Nat.le_of_ble_eq_true rfl)
  rw [lg_entry_eq]
  generalize (lg_sl ([.ref h]) ++ List.replicate (1 - (lg_sl ([.ref h])).length) Slot.unset).toArray = ls at hl ⊢
  have hl : lv_has ls 1 [(0, .ref h)] := hl
  have kf71 := hts (.fieldLink RX0 71 "TimeNet" "rowLength" "J") (by decide +kernel)
  have hin : ∀ w ∈ u_ws RX0 TX0 11, w ∈ wsX0_length := by decide +kernel
  refine lv_aload_n hx hb dX0_length_0 rfl (lv_at hl 0 rfl) ?_
  refine va_get (D := (dC, dI)) (ci := 0) (v := .long rl) (C := RX0) (T := TX0) (N := 11) hx hb hts hin hown hK hP 0 rfl rfl 10 (by decide) kf71 (fun _ h9 => h9) rfl dX0_length_1 ?_
  exact W.lret (v := rl) hx hb hr (fun t ht hW => ⟨⟨rl, (), rfl, rfl, by rw [ht]; exact hP, va_K.moved hW.alike hK, hD⟩, hS.F ht⟩) hS.2.2 dX0_length_4
set_option maxHeartbeats 4000000 in
set_option maxRecDepth 100000 in
/-- alive() -/
theorem cX0_alive_ok (l : Launch) (dC : Nat → ClassId) (dI : Nat → Nat → Nat) (h a1 a2 a3 a4 a5 a6 a7 : Nat) (cI cL cZ : ClassId) (cnt onc : Nat) (fp sp : Nat → Nat) (mo : Nat → Int64) (on : Nat → Bool) (lf : Nat → Int64) (sf : Nat → Int32) (rp : Nat → Nat) (rs : Nat) (rl : Int64) (sz : Nat)  : Met l yX0_alive wsX0_alive ({ frames := 0, cells := 0, slots := 0, locals := 0 }) (va_Pc [.ref h] (tn_Pre dC dI (tn_tys cI cL cZ) (tn_ws h a1 a2 a3 a4 a5 a6 a7 cI cL cZ cnt onc fp sp mo on lf sf rp rs rl) sz)) (va_Qi (S := Unit) (fun r _ => r = nI onc) (fun u t => tn_at dC dI (tn_tys cI cL cZ) (va_A (tn_ws h a1 a2 a3 a4 a5 a6 a7 cI cL cZ cnt onc fp sp mo on lf sf rp rs rl) sz) (tn_ws h a1 a2 a3 a4 a5 a6 a7 cI cL cZ cnt onc fp sp mo on lf sf rp rs rl) t) (va_A (tn_ws h a1 a2 a3 a4 a5 a6 a7 cI cL cZ cnt onc fp sp mo on lf sf rp rs rl) sz)) 0 0 (va_A (tn_ws h a1 a2 a3 a4 a5 a6 a7 cI cL cZ cnt onc fp sp mo on lf sf rp rs rl) sz) := by
  refine Met.ofW (cc := cX0_alive) (maxL := 1) (ret := (some .int)) (by decide) rfl ?_
  intro p e s m args below meth c s₁ B hml hv
  obtain ⟨rfl, hsz, hP, hK, hD0⟩ := hv
  have hx := B.exec
  have hb := B.bytes
  have hr := B.returns
  have hts := atoms_spec (ws := wsX0_alive) B.pre
  have hown : s.vm.findClass RX0 = some m.cls := findClass_of_methodNamed B.named
  have hlocks := B.notSynchronized
  subst hsz
  have hD := hD0.self (sz := s.heap.size)
  generalize hAe : va_A (tn_ws h a1 a2 a3 a4 a5 a6 a7 cI cL cZ cnt onc fp sp mo on lf sf rp rs rl) s.heap.size = A at hD ⊢
  have hA : ∀ q : Nat, s.heap.size ≤ q → A q := fun q h => by rw [← hAe]; exact Or.inr h
  have hS : va_S A s.heap s.heap [] := va_S.rf
  have hl := lv_entry ([.ref h]) (n := 1) (Nat.le_of_ble_eq_true rfl)
  rw [lg_entry_eq]
  generalize (lg_sl ([.ref h]) ++ List.replicate (1 - (lg_sl ([.ref h])).length) Slot.unset).toArray = ls at hl ⊢
  have hl : lv_has ls 1 [(0, .ref h)] := hl
  have kf44 := hts (.fieldLink RX0 44 "TimeNet" "onCount" "I") (by decide +kernel)
  have hin : ∀ w ∈ u_ws RX0 TX0 11, w ∈ wsX0_alive := by decide +kernel
  refine lv_aload_n hx hb dX0_alive_0 rfl (lv_at hl 0 rfl) ?_
  refine va_get (D := (dC, dI)) (ci := 0) (v := .int (nI onc)) (C := RX0) (T := TX0) (N := 11) hx hb hts hin hown hK hP 0 rfl rfl 5 (by decide) kf44 (fun _ h9 => h9) rfl dX0_alive_1 ?_
  exact W.iret (v := nI onc) hx hb hr (fun t ht hW => ⟨⟨nI onc, (), rfl, rfl, by rw [ht]; exact hP, va_K.moved hW.alike hK, hD⟩, hS.F ht⟩) hS.2.2 dX0_alive_4
set_option maxHeartbeats 4000000 in
set_option maxRecDepth 100000 in
/-- rowAt(x) -/
theorem cX0_rowAt_ok (l : Launch) (dC : Nat → ClassId) (dI : Nat → Nat → Nat) (h a1 a2 a3 a4 a5 a6 a7 : Nat) (cI cL cZ : ClassId) (cnt onc : Nat) (fp sp : Nat → Nat) (mo : Nat → Int64) (on : Nat → Bool) (lf : Nat → Int64) (sf : Nat → Int32) (rp : Nat → Nat) (rs : Nat) (rl : Int64) (sz : Nat) (hrs : rs ≤ 21) (x : Int32) : Met l yX0_rowAt wsX0_rowAt ({ frames := 0, cells := 0, slots := 0, locals := 0 }) (va_Pc [.ref h, .int x] (tn_Pre dC dI (tn_tys cI cL cZ) (tn_ws h a1 a2 a3 a4 a5 a6 a7 cI cL cZ cnt onc fp sp mo on lf sf rp rs rl) sz)) (va_Qi (S := Unit) (fun r _ => sp_rowAt rp rs x r) (fun u t => tn_at dC dI (tn_tys cI cL cZ) (va_A (tn_ws h a1 a2 a3 a4 a5 a6 a7 cI cL cZ cnt onc fp sp mo on lf sf rp rs rl) sz) (tn_ws h a1 a2 a3 a4 a5 a6 a7 cI cL cZ cnt onc fp sp mo on lf sf rp rs rl) t) (va_A (tn_ws h a1 a2 a3 a4 a5 a6 a7 cI cL cZ cnt onc fp sp mo on lf sf rp rs rl) sz)) 0 0 (va_A (tn_ws h a1 a2 a3 a4 a5 a6 a7 cI cL cZ cnt onc fp sp mo on lf sf rp rs rl) sz) := by
  refine Met.ofW (cc := cX0_rowAt) (maxL := 2) (ret := (some .int)) (by decide) rfl ?_
  intro p e s m args below meth c s₁ B hml hv
  obtain ⟨rfl, hsz, hP, hK, hD0⟩ := hv
  have hx := B.exec
  have hb := B.bytes
  have hr := B.returns
  have hts := atoms_spec (ws := wsX0_rowAt) B.pre
  have hown : s.vm.findClass RX0 = some m.cls := findClass_of_methodNamed B.named
  have hlocks := B.notSynchronized
  subst hsz
  have hD := hD0.self (sz := s.heap.size)
  generalize hAe : va_A (tn_ws h a1 a2 a3 a4 a5 a6 a7 cI cL cZ cnt onc fp sp mo on lf sf rp rs rl) s.heap.size = A at hD ⊢
  have hA : ∀ q : Nat, s.heap.size ≤ q → A q := fun q h => by rw [← hAe]; exact Or.inr h
  have hS : va_S A s.heap s.heap [] := va_S.rf
  have hl := lv_entry ([.ref h, .int x]) (n := 2) (Nat.le_of_ble_eq_true rfl)
  rw [lg_entry_eq]
  generalize (lg_sl ([.ref h, .int x]) ++ List.replicate (2 - (lg_sl ([.ref h, .int x])).length) Slot.unset).toArray = ls at hl ⊢
  have hl : lv_has ls 2 [(0, .ref h), (1, .int x)] := hl
  have kf65 := hts (.fieldLink RX0 65 "TimeNet" "rowSize" "I") (by decide +kernel)
  have kf30 := hts (.fieldLink RX0 30 "TimeNet" "rowPoints" "[I") (by decide +kernel)
  have hin : ∀ w ∈ u_ws RX0 TX0 11, w ∈ wsX0_rowAt := by decide +kernel
  refine lv_iload_n hx hb dX0_rowAt_0 rfl (lv_at hl 1 rfl) ?_
  refine lv_if_lt (tgt := 21) hx hb dX0_rowAt_1 (by decide) (fun c_1 => ?_) (fun c_1 => ?_)
  · skip
    refine lv_iconst (v := (-1)) hx hb dX0_rowAt_21 (by decide) ?_
    exact W.iret (v := (-1)) hx hb hr (fun t ht hW => ⟨⟨(-1), (), rfl, Or.inr ⟨tn_ix2 c_1 (by omega), rfl⟩, by rw [ht]; exact hP, va_K.moved hW.alike hK, hD⟩, hS.F ht⟩) hS.2.2 dX0_rowAt_22
  · skip
    refine lv_iload_n hx hb dX0_rowAt_4 rfl (lv_at hl 1 rfl) ?_
    refine lv_aload_n hx hb dX0_rowAt_5 rfl (lv_at hl 0 rfl) ?_
    refine va_get (D := (dC, dI)) (ci := 0) (v := .int (nI rs)) (C := RX0) (T := TX0) (N := 11) hx hb hts hin hown hK hP 0 rfl rfl 9 (by decide) kf65 (fun _ h9 => h9) rfl dX0_rowAt_6 ?_
    refine lv_icmp_ge (tgt := 21) hx hb dX0_rowAt_9 (by decide) (fun c_9 => ?_) (fun c_9 => ?_)
    · skip
      refine lv_iconst (v := (-1)) hx hb dX0_rowAt_21 (by decide) ?_
      exact W.iret (v := (-1)) hx hb hr (fun t ht hW => ⟨⟨(-1), (), rfl, Or.inr ⟨tn_ix3 c_9 (by omega), rfl⟩, by rw [ht]; exact hP, va_K.moved hW.alike hK, hD⟩, hS.F ht⟩) hS.2.2 dX0_rowAt_22
    · skip
      obtain ⟨k, hk, ex⟩ := tn_ix1 c_1 c_9 (by omega)
      subst ex
      refine lv_aload_n hx hb dX0_rowAt_12 rfl (lv_at hl 0 rfl) ?_
      refine va_get (D := (dC, dI)) (ci := 0) (v := .ref a7) (C := RX0) (T := TX0) (N := 11) hx hb hts hin hown hK hP 0 rfl rfl 8 (by decide) kf30 (fun _ h9 => h9) rfl dX0_rowAt_13 ?_
      refine lv_iload_n hx hb dX0_rowAt_16 rfl (lv_at hl 1 rfl) ?_
      refine tn_iald (i := k) (v := nI (rp k)) hx hb hK hP 7 0 rfl rfl (by omega) (by decide) rfl dX0_rowAt_17 ?_
      refine lv_goto (tgt := 22) hx hb dX0_rowAt_18 (by decide) ?_
      exact W.iret (v := nI (rp k)) hx hb hr (fun t ht hW => ⟨⟨nI (rp k), (), rfl, Or.inl ⟨k, hk, rfl, rfl⟩, by rw [ht]; exact hP, va_K.moved hW.alike hK, hD⟩, hS.F ht⟩) hS.2.2 dX0_rowAt_22
set_option maxHeartbeats 4000000 in
set_option maxRecDepth 100000 in
/-- slack(x) -/
theorem cX0_slack_ok (l : Launch) (dC : Nat → ClassId) (dI : Nat → Nat → Nat) (h a1 a2 a3 a4 a5 a6 a7 : Nat) (cI cL cZ : ClassId) (cnt onc : Nat) (fp sp : Nat → Nat) (mo : Nat → Int64) (on : Nat → Bool) (lf : Nat → Int64) (sf : Nat → Int32) (rp : Nat → Nat) (rs : Nat) (rl : Int64) (sz : Nat) (g : tn_good cnt fp sp mo) (ok : tn_ok (tn_E cnt fp sp mo on)) (x : Int32) : Met l yX0_slack wsX0_slack ({ frames := 3, cells := 0, slots := 0, locals := 72 }) (va_Pc [.ref h, .int x] (tn_Pre dC dI (tn_tys cI cL cZ) (tn_ws h a1 a2 a3 a4 a5 a6 a7 cI cL cZ cnt onc fp sp mo on lf sf rp rs rl) sz)) (va_Ql (S := tn_D) (fun r _ => sp_slack cnt fp sp mo on x r) (fun u t => tn_at dC dI (tn_tys cI cL cZ) (va_A (tn_ws h a1 a2 a3 a4 a5 a6 a7 cI cL cZ cnt onc fp sp mo on lf sf rp rs rl) sz) (tn_ws h a1 a2 a3 a4 a5 a6 a7 cI cL cZ cnt onc fp sp mo on u.1 u.2 rp rs rl) t) (va_A (tn_ws h a1 a2 a3 a4 a5 a6 a7 cI cL cZ cnt onc fp sp mo on lf sf rp rs rl) sz)) 0 0 (va_A (tn_ws h a1 a2 a3 a4 a5 a6 a7 cI cL cZ cnt onc fp sp mo on lf sf rp rs rl) sz) := by
  refine Met.ofW (cc := cX0_slack) (maxL := 2) (ret := (some .long)) (by decide) rfl ?_
  intro p e s m args below meth c s₁ B hml hv
  obtain ⟨rfl, hsz, hP, hK, hD0⟩ := hv
  have hx := B.exec
  have hb := B.bytes
  have hr := B.returns
  have hts := atoms_spec (ws := wsX0_slack) B.pre
  have hown : s.vm.findClass RX0 = some m.cls := findClass_of_methodNamed B.named
  have hlocks := B.notSynchronized
  subst hsz
  have hD := hD0.self (sz := s.heap.size)
  generalize hAe : va_A (tn_ws h a1 a2 a3 a4 a5 a6 a7 cI cL cZ cnt onc fp sp mo on lf sf rp rs rl) s.heap.size = A at hD ⊢
  have hA : ∀ q : Nat, s.heap.size ≤ q → A q := fun q h => by rw [← hAe]; exact Or.inr h
  have hS : va_S A s.heap s.heap [] := va_S.rf
  have hl := lv_entry ([.ref h, .int x]) (n := 2) (Nat.le_of_ble_eq_true rfl)
  rw [lg_entry_eq]
  generalize (lg_sl ([.ref h, .int x]) ++ List.replicate (2 - (lg_sl ([.ref h, .int x])).length) Slot.unset).toArray = ls at hl ⊢
  have hl : lv_has ls 2 [(0, .ref h), (1, .int x)] := hl
  have kf20 := hts (.fieldLink RX0 20 "TimeNet" "isOn" "[Z") (by decide +kernel)
  have kc79 := hts (.constantLong RX0 79 (-1)) (by decide +kernel)
  have kf13 := hts (.fieldLink RX0 13 "TimeNet" "secondPoint" "[I") (by decide +kernel)
  have kf16 := hts (.fieldLink RX0 16 "TimeNet" "most" "[J") (by decide +kernel)
  have kf24 := hts (.fieldLink RX0 24 "TimeNet" "lengthFrom" "[J") (by decide +kernel)
  have kf9 := hts (.fieldLink RX0 9 "TimeNet" "firstPoint" "[I") (by decide +kernel)
  have hin : ∀ w ∈ u_ws RX0 TX0 11, w ∈ wsX0_slack := by decide +kernel
  have hc := g.1
  refine lv_aload_n hx hb dX0_slack_0 rfl (lv_at hl 0 rfl) ?_
  refine lv_iload_n hx hb dX0_slack_1 rfl (lv_at hl 1 rfl) ?_
  have hF := tn_freeA hD hS hA
  refine va_calli (va_runV (As := [.int x]) (rest := []) ⟨hx, hb, hml, hown, hts⟩ (cX0_isNumber_ok l dC dI h a1 a2 a3 a4 a5 a6 a7 cI cL cZ cnt onc fp sp mo on lf sf rp rs rl s.heap.size hc x) (cwV 1 hts gX0_slack_X0_isNumber rfl rfl rfl (by decide +kernel) ⟨Nat.le_of_ble_eq_true rfl, Nat.le_of_ble_eq_true rfl⟩) (tn_preV hK hP hD (ci := 0) rfl 0 rfl) rfl rfl hl.1 rfl (lv_room (Nat.le_of_ble_eq_true rfl)) dX0_slack_2 ⟨Nat.le_of_ble_eq_true rfl, Nat.le_of_ble_eq_true rfl⟩) hS (fun q _ h => hF q h) hF (fun r_2 u_2 t H1 locs ht hvm hw_2 hB hz1 hk1 hS => ?_)
  obtain ⟨hP1, -, hD1⟩ := hB
  rw [ht] at hP1
  have hD := hD1.weaken (fun _ q _ hq => hF q.1 hq)
  clear hP hk1 hF hz1 ht hvm hD1
  generalize H1 = H at hP1 hS ⊢
  have hP := hP1
  clear hP1
  refine lv_if_eq (tgt := 17) hx hb dX0_slack_5 (by decide) (fun c_5 => ?_) (fun c_5 => ?_)
  · skip
    have hn_2 : ∀ j, j < cnt → x ≠ nI j := by
      rcases hw_2 with ⟨q, _⟩ | ⟨_, q⟩
      · exact absurd (q ▸ c_5 : nI 1 = 0) (by decide)
      · exact q
    refine lv_ldc2 (v := (-1)) hx hb hown kc79 dX0_slack_17 ?_
    exact W.lret (v := (-1)) hx hb hr (fun t ht hW => ⟨⟨(-1), (lf, sf), rfl, Or.inr ⟨fun k hk e => absurd e (hn_2 k hk), rfl⟩, by rw [ht]; exact hP, va_K.moved hW.alike hK, hD⟩, hS.F ht⟩) hS.2.2 dX0_slack_20
  · skip
    obtain ⟨k, hk, ex⟩ : ∃ j, j < cnt ∧ x = nI j := by
      rcases hw_2 with ⟨_, q⟩ | ⟨q, _⟩
      · exact q
      · exact absurd (q : r_2 = 0) c_5
    subst ex
    refine lv_aload_n hx hb dX0_slack_8 rfl (lv_at hl 0 rfl) ?_
    refine va_get (D := (dC, dI)) (ci := 0) (v := .ref a4) (C := RX0) (T := TX0) (N := 11) hx hb hts hin hown hK hP 0 rfl rfl 3 (by decide) kf20 (fun _ h9 => h9) rfl dX0_slack_9 ?_
    refine lv_iload_n hx hb dX0_slack_12 rfl (lv_at hl 1 rfl) ?_
    refine tn_zald (i := k) (v := tn_b (on k)) hx hb hK hP 4 2 rfl rfl (by omega) (by decide) rfl dX0_slack_13 ?_
    refine lv_if_ne (tgt := 21) hx hb dX0_slack_14 (by decide) (fun c_14 => ?_) (fun c_14 => ?_)
    · skip
      have ho := tn_b_ne0 c_14
      have hk0 := (g.2 k hk).1
      have hk1 := (g.2 k hk).2.1
      refine lv_aload_n hx hb dX0_slack_21 rfl (lv_at hl 0 rfl) ?_
      refine lv_aload_n hx hb dX0_slack_22 rfl (lv_at hl 0 rfl) ?_
      refine va_get (D := (dC, dI)) (ci := 0) (v := .ref a2) (C := RX0) (T := TX0) (N := 11) hx hb hts hin hown hK hP 0 rfl rfl 1 (by decide) kf13 (fun _ h9 => h9) rfl dX0_slack_23 ?_
      refine lv_iload_n hx hb dX0_slack_26 rfl (lv_at hl 1 rfl) ?_
      refine tn_iald (i := k) (v := nI (sp k)) hx hb hK hP 2 0 rfl rfl (by omega) (by decide) rfl dX0_slack_27 ?_
      have hF := tn_freeA hD hS hA
      refine va_callv (va_runV (As := [.int (nI (sp k))]) (rest := []) ⟨hx, hb, hml, hown, hts⟩ (cX0_measureTo_ok l dC dI h a1 a2 a3 a4 a5 a6 a7 cI cL cZ cnt onc fp sp mo on lf sf rp rs rl H.size g (sp k) hk1) (cwV 1 hts gX0_slack_X0_measureTo rfl rfl rfl (by decide +kernel) ⟨Nat.le_of_ble_eq_true rfl, Nat.le_of_ble_eq_true rfl⟩) (tn_preV hK hP hD (ci := 0) rfl 0 rfl) rfl rfl hl.1 rfl (lv_room (Nat.le_of_ble_eq_true rfl)) dX0_slack_28 ⟨Nat.le_of_ble_eq_true rfl, Nat.le_of_ble_eq_true rfl⟩) hS (fun q _ h => hF q h) hF (fun u_28 t H1 locs ht hvm hw_28 hB hz1 hk1 hS => ?_)
      obtain ⟨hP1, -, hD1⟩ := hB
      rw [ht] at hP1
      have hD := hD1.weaken (fun _ q _ hq => hF q.1 hq)
      clear hP hk1 hF hz1 ht hvm hD1
      generalize H1 = H at hP1 hS ⊢
      have hP := hP1
      clear hP1
      refine lv_aload_n hx hb dX0_slack_31 rfl (lv_at hl 0 rfl) ?_
      refine va_get (D := (dC, dI)) (ci := 0) (v := .ref a3) (C := RX0) (T := TX0) (N := 11) hx hb hts hin hown hK hP 0 rfl rfl 2 (by decide) kf16 (fun _ h9 => h9) rfl dX0_slack_32 ?_
      refine lv_iload_n hx hb dX0_slack_35 rfl (lv_at hl 1 rfl) ?_
      refine tn_lald (i := k) (v := mo k) hx hb hK hP 3 1 rfl rfl (by omega) (by decide) rfl dX0_slack_36 ?_
      refine lv_aload_n hx hb dX0_slack_37 rfl (lv_at hl 0 rfl) ?_
      refine va_get (D := (dC, dI)) (ci := 0) (v := .ref a5) (C := RX0) (T := TX0) (N := 11) hx hb hts hin hown hK hP 0 rfl rfl 6 (by decide) kf24 (fun _ h9 => h9) rfl dX0_slack_38 ?_
      refine lv_aload_n hx hb dX0_slack_41 rfl (lv_at hl 0 rfl) ?_
      refine va_get (D := (dC, dI)) (ci := 0) (v := .ref a1) (C := RX0) (T := TX0) (N := 11) hx hb hts hin hown hK hP 0 rfl rfl 0 (by decide) kf9 (fun _ h9 => h9) rfl dX0_slack_42 ?_
      refine lv_iload_n hx hb dX0_slack_45 rfl (lv_at hl 1 rfl) ?_
      refine tn_iald (i := k) (v := nI (fp k)) hx hb hK hP 1 0 rfl rfl (by omega) (by decide) rfl dX0_slack_46 ?_
      refine tn_lald (i := (fp k)) (v := u_28.1 (fp k)) hx hb hK hP 5 1 rfl rfl (by omega) (by decide) rfl dX0_slack_47 ?_
      refine lv_lsub hx hb dX0_slack_48 ?_
      exact W.lret (v := (mo k) - (u_28.1 (fp k))) hx hb hr (fun t ht hW => ⟨⟨(mo k) - (u_28.1 (fp k)), (u_28.1, u_28.2), rfl, tn_slack_yes g ok hk ho (tn_ms_ok g ok hk1 hw_28), by rw [ht]; exact hP, va_K.moved hW.alike hK, hD⟩, hS.F ht⟩) hS.2.2 dX0_slack_49
    · skip
      have ho := tn_b_eq0 c_14
      refine lv_ldc2 (v := (-1)) hx hb hown kc79 dX0_slack_17 ?_
      exact W.lret (v := (-1)) hx hb hr (fun t ht hW => ⟨⟨(-1), (lf, sf), rfl, Or.inr ⟨fun k2 hk2 e => by rw [(nI_eq (by omega) (by omega)).mp e] at ho; exact ho, rfl⟩, by rw [ht]; exact hP, va_K.moved hW.alike hK, hD⟩, hS.F ht⟩) hS.2.2 dX0_slack_20
