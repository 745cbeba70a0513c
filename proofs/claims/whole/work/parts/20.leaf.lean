set_option maxHeartbeats 4000000 in
set_option maxRecDepth 100000 in
/-- isPoint(x): whether x is one of 0 .. 19 -/
theorem cX0_isPoint_ok (l : Launch) (dC : Nat → ClassId) (dI : Nat → Nat → Nat) (h a1 a2 a3 a4 a5 a6 a7 : Nat) (cI cL cZ : ClassId) (cnt onc : Nat) (fp sp : Nat → Nat) (mo : Nat → Int64) (on : Nat → Bool) (lf : Nat → Int64) (sf : Nat → Int32) (rp : Nat → Nat) (rs : Nat) (rl : Int64) (sz : Nat) (x : Int32) : Met l yX0_isPoint wsX0_isPoint ({ frames := 0, cells := 0, slots := 0, locals := 0 }) (va_Pc [.int x] (tn_Pre dC dI (tn_tys cI cL cZ) (tn_ws h a1 a2 a3 a4 a5 a6 a7 cI cL cZ cnt onc fp sp mo on lf sf rp rs rl) sz)) (va_Qi (S := Unit) (fun r _ => (r = nI 1 ∧ ∃ j, j < 20 ∧ x = nI j) ∨ (r = nI 0 ∧ ∀ j, j < 20 → x ≠ nI j)) (fun u t => tn_at dC dI (tn_tys cI cL cZ) (va_A (tn_ws h a1 a2 a3 a4 a5 a6 a7 cI cL cZ cnt onc fp sp mo on lf sf rp rs rl) sz) (tn_ws h a1 a2 a3 a4 a5 a6 a7 cI cL cZ cnt onc fp sp mo on lf sf rp rs rl) t) (va_A (tn_ws h a1 a2 a3 a4 a5 a6 a7 cI cL cZ cnt onc fp sp mo on lf sf rp rs rl) sz)) 0 0 (va_A (tn_ws h a1 a2 a3 a4 a5 a6 a7 cI cL cZ cnt onc fp sp mo on lf sf rp rs rl) sz) := by
  refine Met.ofW (cc := cX0_isPoint) (maxL := 1) (ret := (some .boolean)) (by decide) rfl ?_
  intro p e s m args below meth c s₁ B hml hv
  obtain ⟨rfl, hsz, hP, hK, hD0⟩ := hv
  have hx := B.exec
  have hb := B.bytes
  have hr := B.returns
  have hts := atoms_spec (ws := wsX0_isPoint) B.pre
  have hown : s.vm.findClass RX0 = some m.cls := findClass_of_methodNamed B.named
  have hlocks := B.notSynchronized
  subst hsz
  have hD := hD0.self (sz := s.heap.size)
  generalize hAe : va_A (tn_ws h a1 a2 a3 a4 a5 a6 a7 cI cL cZ cnt onc fp sp mo on lf sf rp rs rl) s.heap.size = A at hD ⊢
  have hA : ∀ q : Nat, s.heap.size ≤ q → A q := fun q h => by rw [← hAe]; exact Or.inr h
  have hS : va_S A s.heap s.heap [] := va_S.rf
  have hl := lv_entry ([.int x]) (n := 1) (Nat.le_of_ble_eq_true rfl)
  rw [lg_entry_eq]
  generalize (lg_sl ([.int x]) ++ List.replicate (1 - (lg_sl ([.int x])).length) Slot.unset).toArray = ls at hl ⊢
  have hl : lv_has ls 1 [(0, .int x)] := hl
  refine lv_iload_n hx hb dX0_isPoint_0 rfl (lv_at hl 0 rfl) ?_
  refine lv_if_lt (tgt := 14) hx hb dX0_isPoint_1 (by decide) (fun c_1 => ?_) (fun c_1 => ?_)
  · skip
    refine lv_iconst (v := nI 0) hx hb dX0_isPoint_14 (by decide) ?_
    exact W.zret (v := nI 0) hx hb hr rfl (fun t ht hW => ⟨⟨nI 0, (), rfl, Or.inr ⟨rfl, tn_ix2 c_1 (by decide)⟩, by rw [ht]; exact hP, va_K.moved hW.alike hK, hD⟩, hS.F ht⟩) hS.2.2 dX0_isPoint_15
  · skip
    refine lv_iload_n hx hb dX0_isPoint_4 rfl (lv_at hl 0 rfl) ?_
    refine lv_bipush (v := nI 20) hx hb dX0_isPoint_5 (by decide) ?_
    refine lv_icmp_ge (tgt := 14) hx hb dX0_isPoint_7 (by decide) (fun c_7 => ?_) (fun c_7 => ?_)
    · skip
      refine lv_iconst (v := nI 0) hx hb dX0_isPoint_14 (by decide) ?_
      exact W.zret (v := nI 0) hx hb hr rfl (fun t ht hW => ⟨⟨nI 0, (), rfl, Or.inr ⟨rfl, tn_ix3 c_7 (by decide)⟩, by rw [ht]; exact hP, va_K.moved hW.alike hK, hD⟩, hS.F ht⟩) hS.2.2 dX0_isPoint_15
    · skip
      refine lv_iconst (v := nI 1) hx hb dX0_isPoint_10 (by decide) ?_
      refine lv_goto (tgt := 15) hx hb dX0_isPoint_11 (by decide) ?_
      exact W.zret (v := nI 1) hx hb hr rfl (fun t ht hW => ⟨⟨nI 1, (), rfl, Or.inl ⟨rfl, tn_ix1 c_1 c_7 (by decide)⟩, by rw [ht]; exact hP, va_K.moved hW.alike hK, hD⟩, hS.F ht⟩) hS.2.2 dX0_isPoint_15
set_option maxHeartbeats 4000000 in
set_option maxRecDepth 100000 in
/-- isNumber(x): whether x is the number of a constraint -/
theorem cX0_isNumber_ok (l : Launch) (dC : Nat → ClassId) (dI : Nat → Nat → Nat) (h a1 a2 a3 a4 a5 a6 a7 : Nat) (cI cL cZ : ClassId) (cnt onc : Nat) (fp sp : Nat → Nat) (mo : Nat → Int64) (on : Nat → Bool) (lf : Nat → Int64) (sf : Nat → Int32) (rp : Nat → Nat) (rs : Nat) (rl : Int64) (sz : Nat) (hc : cnt ≤ 120) (x : Int32) : Met l yX0_isNumber wsX0_isNumber ({ frames := 0, cells := 0, slots := 0, locals := 0 }) (va_Pc [.ref h, .int x] (tn_Pre dC dI (tn_tys cI cL cZ) (tn_ws h a1 a2 a3 a4 a5 a6 a7 cI cL cZ cnt onc fp sp mo on lf sf rp rs rl) sz)) (va_Qi (S := Unit) (fun r _ => (r = nI 1 ∧ ∃ j, j < cnt ∧ x = nI j) ∨ (r = nI 0 ∧ ∀ j, j < cnt → x ≠ nI j)) (fun u t => tn_at dC dI (tn_tys cI cL cZ) (va_A (tn_ws h a1 a2 a3 a4 a5 a6 a7 cI cL cZ cnt onc fp sp mo on lf sf rp rs rl) sz) (tn_ws h a1 a2 a3 a4 a5 a6 a7 cI cL cZ cnt onc fp sp mo on lf sf rp rs rl) t) (va_A (tn_ws h a1 a2 a3 a4 a5 a6 a7 cI cL cZ cnt onc fp sp mo on lf sf rp rs rl) sz)) 0 0 (va_A (tn_ws h a1 a2 a3 a4 a5 a6 a7 cI cL cZ cnt onc fp sp mo on lf sf rp rs rl) sz) := by
  refine Met.ofW (cc := cX0_isNumber) (maxL := 2) (ret := (some .boolean)) (by decide) rfl ?_
  intro p e s m args below meth c s₁ B hml hv
  obtain ⟨rfl, hsz, hP, hK, hD0⟩ := hv
  have hx := B.exec
  have hb := B.bytes
  have hr := B.returns
  have hts := atoms_spec (ws := wsX0_isNumber) B.pre
  have hown : s.vm.findClass RX0 = some m.cls := findClass_of_methodNamed B.named
  have hlocks := B.notSynchronized
  subst hsz
  have hD := hD0.self (sz := s.heap.size)
  generalize hAe : va_A (tn_ws h a1 a2 a3 a4 a5 a6 a7 cI cL cZ cnt onc fp sp mo on lf sf rp rs rl) s.heap.size = A at hD ⊢
  have hA : ∀ q : Nat, s.heap.size ≤ q → A q := fun q h => by rw [← hAe]; exact Or.inr h
  have hS : va_S A s.heap s.heap [] := va_S.rf
  have hl := lv_entry ([.ref h, .int x]) (n := 2) (Nat.le_of_ble_eq_true rfl)
  rw [lg_entry_eq]
  generalize (lg_sl ([.ref h, .int x]) ++ List.replicate (2 - (lg_sl ([.ref h, .int x])).length) Slot.unset).toArray = ls at hl ⊢
  have hl : lv_has ls 2 [(0, .ref h), (1, .int x)] := hl
  have kf33 := hts (.fieldLink RX0 33 "TimeNet" "count" "I") (by decide +kernel)
  have hin : ∀ w ∈ u_ws RX0 TX0 11, w ∈ wsX0_isNumber := by decide +kernel
  refine lv_iload_n hx hb dX0_isNumber_0 rfl (lv_at hl 1 rfl) ?_
  refine lv_if_lt (tgt := 16) hx hb dX0_isNumber_1 (by decide) (fun c_1 => ?_) (fun c_1 => ?_)
  · skip
    refine lv_iconst (v := nI 0) hx hb dX0_isNumber_16 (by decide) ?_
    exact W.zret (v := nI 0) hx hb hr rfl (fun t ht hW => ⟨⟨nI 0, (), rfl, Or.inr ⟨rfl, tn_ix2 c_1 (by omega)⟩, by rw [ht]; exact hP, va_K.moved hW.alike hK, hD⟩, hS.F ht⟩) hS.2.2 dX0_isNumber_17
  · skip
    refine lv_iload_n hx hb dX0_isNumber_4 rfl (lv_at hl 1 rfl) ?_
    refine lv_aload_n hx hb dX0_isNumber_5 rfl (lv_at hl 0 rfl) ?_
    refine va_get (D := (dC, dI)) (ci := 0) (v := .int (nI cnt)) (C := RX0) (T := TX0) (N := 11) hx hb hts hin hown hK hP 0 rfl rfl 4 (by decide) kf33 (fun _ h9 => h9) rfl dX0_isNumber_6 ?_
    refine lv_icmp_ge (tgt := 16) hx hb dX0_isNumber_9 (by decide) (fun c_9 => ?_) (fun c_9 => ?_)
    · skip
      refine lv_iconst (v := nI 0) hx hb dX0_isNumber_16 (by decide) ?_
      exact W.zret (v := nI 0) hx hb hr rfl (fun t ht hW => ⟨⟨nI 0, (), rfl, Or.inr ⟨rfl, tn_ix3 c_9 (by omega)⟩, by rw [ht]; exact hP, va_K.moved hW.alike hK, hD⟩, hS.F ht⟩) hS.2.2 dX0_isNumber_17
    · skip
      refine lv_iconst (v := nI 1) hx hb dX0_isNumber_12 (by decide) ?_
      refine lv_goto (tgt := 17) hx hb dX0_isNumber_13 (by decide) ?_
      exact W.zret (v := nI 1) hx hb hr rfl (fun t ht hW => ⟨⟨nI 1, (), rfl, Or.inl ⟨rfl, tn_ix1 c_1 c_9 (by omega)⟩, by rw [ht]; exact hP, va_K.moved hW.alike hK, hD⟩, hS.F ht⟩) hS.2.2 dX0_isNumber_17
set_option maxHeartbeats 4000000 in
set_option maxRecDepth 100000 in
/-- improveBy(k): one constraint -/
theorem cX0_improveBy_ok (l : Launch) (dC : Nat → ClassId) (dI : Nat → Nat → Nat) (h a1 a2 a3 a4 a5 a6 a7 : Nat) (cI cL cZ : ClassId) (cnt onc : Nat) (fp sp : Nat → Nat) (mo : Nat → Int64) (on : Nat → Bool) (lf : Nat → Int64) (sf : Nat → Int32) (rp : Nat → Nat) (rs : Nat) (rl : Int64) (sz : Nat) (g : tn_good cnt fp sp mo) (k : Nat) (hk : k < cnt) : Met l yX0_improveBy wsX0_improveBy ({ frames := 0, cells := 0, slots := 0, locals := 0 }) (va_Pc [.ref h, .int (nI k)] (tn_Pre dC dI (tn_tys cI cL cZ) (tn_ws h a1 a2 a3 a4 a5 a6 a7 cI cL cZ cnt onc fp sp mo on lf sf rp rs rl) sz)) (va_Qi (S := tn_D) (fun r u => (tn_imp fp sp mo k (lf, sf) ∧ r = nI 1 ∧ u = tn_stp fp sp mo k (lf, sf)) ∨ (¬ tn_imp fp sp mo k (lf, sf) ∧ r = nI 0 ∧ u = (lf, sf))) (fun u t => tn_at dC dI (tn_tys cI cL cZ) (va_A (tn_ws h a1 a2 a3 a4 a5 a6 a7 cI cL cZ cnt onc fp sp mo on lf sf rp rs rl) sz) (tn_ws h a1 a2 a3 a4 a5 a6 a7 cI cL cZ cnt onc fp sp mo on u.1 u.2 rp rs rl) t) (va_A (tn_ws h a1 a2 a3 a4 a5 a6 a7 cI cL cZ cnt onc fp sp mo on lf sf rp rs rl) sz)) 0 0 (va_A (tn_ws h a1 a2 a3 a4 a5 a6 a7 cI cL cZ cnt onc fp sp mo on lf sf rp rs rl) sz) := by
  refine Met.ofW (cc := cX0_improveBy) (maxL := 8) (ret := (some .boolean)) (by decide) rfl ?_
  intro p e s m args below meth c s₁ B hml hv
  obtain ⟨rfl, hsz, hP, hK, hD0⟩ := hv
  have hx := B.exec
  have hb := B.bytes
  have hr := B.returns
  have hts := atoms_spec (ws := wsX0_improveBy) B.pre
  have hown : s.vm.findClass RX0 = some m.cls := findClass_of_methodNamed B.named
  have hlocks := B.notSynchronized
  subst hsz
  have hD := hD0.self (sz := s.heap.size)
  generalize hAe : va_A (tn_ws h a1 a2 a3 a4 a5 a6 a7 cI cL cZ cnt onc fp sp mo on lf sf rp rs rl) s.heap.size = A at hD ⊢
  have hA : ∀ q : Nat, s.heap.size ≤ q → A q := fun q h => by rw [← hAe]; exact Or.inr h
  have hS : va_S A s.heap s.heap [] := va_S.rf
  have hl := lv_entry ([.ref h, .int (nI k)]) (n := 8) (Nat.le_of_ble_eq_true rfl)
  rw [lg_entry_eq]
  generalize (lg_sl ([.ref h, .int (nI k)]) ++ List.replicate (8 - (lg_sl ([.ref h, .int (nI k)])).length) Slot.unset).toArray = ls at hl ⊢
  have hl : lv_has ls 8 [(0, .ref h), (1, .int (nI k))] := hl
  have kf9 := hts (.fieldLink RX0 9 "TimeNet" "firstPoint" "[I") (by decide +kernel)
  have kf13 := hts (.fieldLink RX0 13 "TimeNet" "secondPoint" "[I") (by decide +kernel)
  have kf24 := hts (.fieldLink RX0 24 "TimeNet" "lengthFrom" "[J") (by decide +kernel)
  have kc75 := hts (.constantLong RX0 75 (9223372036854775807)) (by decide +kernel)
  have kf16 := hts (.fieldLink RX0 16 "TimeNet" "most" "[J") (by decide +kernel)
  have kf27 := hts (.fieldLink RX0 27 "TimeNet" "stepsFrom" "[I") (by decide +kernel)
  have hin : ∀ w ∈ u_ws RX0 TX0 11, w ∈ wsX0_improveBy := by decide +kernel
  have hk0 := (g.2 k hk).1
  have hk1 := (g.2 k hk).2.1
  have hc := g.1
  refine lv_aload_n hx hb dX0_improveBy_0 rfl (lv_at hl 0 rfl) ?_
  refine va_get (D := (dC, dI)) (ci := 0) (v := .ref a1) (C := RX0) (T := TX0) (N := 11) hx hb hts hin hown hK hP 0 rfl rfl 0 (by decide) kf9 (fun _ h9 => h9) rfl dX0_improveBy_1 ?_
  refine lv_iload_n hx hb dX0_improveBy_4 rfl (lv_at hl 1 rfl) ?_
  refine tn_iald (i := k) (v := nI (fp k)) hx hb hK hP 1 0 rfl rfl (by omega) (by decide) rfl dX0_improveBy_5 ?_
  refine lv_istore_n (lv' := [(2, .int (nI (fp k))), (0, .ref h), (1, .int (nI k))]) hx hb dX0_improveBy_6 rfl hl (by decide) rfl (fun ls hl => ?_)
  refine lv_aload_n hx hb dX0_improveBy_7 rfl (lv_at hl 1 rfl) ?_
  refine va_get (D := (dC, dI)) (ci := 0) (v := .ref a2) (C := RX0) (T := TX0) (N := 11) hx hb hts hin hown hK hP 0 rfl rfl 1 (by decide) kf13 (fun _ h9 => h9) rfl dX0_improveBy_8 ?_
  refine lv_iload_n hx hb dX0_improveBy_11 rfl (lv_at hl 2 rfl) ?_
  refine tn_iald (i := k) (v := nI (sp k)) hx hb hK hP 2 0 rfl rfl (by omega) (by decide) rfl dX0_improveBy_12 ?_
  refine lv_istore_n (lv' := [(3, .int (nI (sp k))), (2, .int (nI (fp k))), (0, .ref h), (1, .int (nI k))]) hx hb dX0_improveBy_13 rfl hl (by decide) rfl (fun ls hl => ?_)
  refine lv_aload_n hx hb dX0_improveBy_14 rfl (lv_at hl 2 rfl) ?_
  refine va_get (D := (dC, dI)) (ci := 0) (v := .ref a5) (C := RX0) (T := TX0) (N := 11) hx hb hts hin hown hK hP 0 rfl rfl 6 (by decide) kf24 (fun _ h9 => h9) rfl dX0_improveBy_15 ?_
  refine lv_iload_n hx hb dX0_improveBy_18 rfl (lv_at hl 0 rfl) ?_
  refine tn_lald (i := (sp k)) (v := lf (sp k)) hx hb hK hP 5 1 rfl rfl (by omega) (by decide) rfl dX0_improveBy_19 ?_
  refine lv_ldc2 (v := 9223372036854775807) hx hb hown kc75 dX0_improveBy_20 ?_
  refine tn_lc_ne (x := (lf (sp k))) (y := 9223372036854775807) (tgt := 29) hx hb dX0_improveBy_23 dX0_improveBy_24 (by decide) (fun c_23 => ?_) (fun c_23 => ?_)
  · skip
    refine lv_aload_n hx hb dX0_improveBy_29 rfl (lv_at hl 2 rfl) ?_
    refine va_get (D := (dC, dI)) (ci := 0) (v := .ref a3) (C := RX0) (T := TX0) (N := 11) hx hb hts hin hown hK hP 0 rfl rfl 2 (by decide) kf16 (fun _ h9 => h9) rfl dX0_improveBy_30 ?_
    refine lv_iload_n hx hb dX0_improveBy_33 rfl (lv_at hl 3 rfl) ?_
    refine tn_lald (i := k) (v := mo k) hx hb hK hP 3 1 rfl rfl (by omega) (by decide) rfl dX0_improveBy_34 ?_
    refine lv_aload_n hx hb dX0_improveBy_35 rfl (lv_at hl 2 rfl) ?_
    refine va_get (D := (dC, dI)) (ci := 0) (v := .ref a5) (C := RX0) (T := TX0) (N := 11) hx hb hts hin hown hK hP 0 rfl rfl 6 (by decide) kf24 (fun _ h9 => h9) rfl dX0_improveBy_36 ?_
    refine lv_iload_n hx hb dX0_improveBy_39 rfl (lv_at hl 0 rfl) ?_
    refine tn_lald (i := (sp k)) (v := lf (sp k)) hx hb hK hP 5 1 rfl rfl (by omega) (by decide) rfl dX0_improveBy_40 ?_
    refine lv_ladd hx hb dX0_improveBy_41 ?_
    refine lv_lstore (lv' := [(4, .long ((mo k) + (lf (sp k)))), (3, .int (nI (sp k))), (2, .int (nI (fp k))), (0, .ref h), (1, .int (nI k))]) hx hb dX0_improveBy_42 hl (by decide) rfl (fun ls hl => ?_)
    refine lv_aload_n hx hb dX0_improveBy_44 rfl (lv_at hl 3 rfl) ?_
    refine va_get (D := (dC, dI)) (ci := 0) (v := .ref a6) (C := RX0) (T := TX0) (N := 11) hx hb hts hin hown hK hP 0 rfl rfl 7 (by decide) kf27 (fun _ h9 => h9) rfl dX0_improveBy_45 ?_
    refine lv_iload_n hx hb dX0_improveBy_48 rfl (lv_at hl 1 rfl) ?_
    refine tn_iald (i := (sp k)) (v := sf (sp k)) hx hb hK hP 6 0 rfl rfl (by omega) (by decide) rfl dX0_improveBy_49 ?_
    refine lv_iconst (v := nI 1) hx hb dX0_improveBy_50 (by decide) ?_
    refine lv_iadd hx hb dX0_improveBy_51 ?_
    refine lv_istore (lv' := [(6, .int ((sf (sp k)) + (nI 1))), (4, .long ((mo k) + (lf (sp k)))), (3, .int (nI (sp k))), (2, .int (nI (fp k))), (0, .ref h), (1, .int (nI k))]) hx hb dX0_improveBy_52 hl (by decide) rfl (fun ls hl => ?_)
    refine lv_lload hx hb dX0_improveBy_54 (lv_at hl 1 rfl) ?_
    refine lv_aload_n hx hb dX0_improveBy_56 rfl (lv_at hl 4 rfl) ?_
    refine va_get (D := (dC, dI)) (ci := 0) (v := .ref a5) (C := RX0) (T := TX0) (N := 11) hx hb hts hin hown hK hP 0 rfl rfl 6 (by decide) kf24 (fun _ h9 => h9) rfl dX0_improveBy_57 ?_
    refine lv_iload_n hx hb dX0_improveBy_60 rfl (lv_at hl 3 rfl) ?_
    refine tn_lald (i := (fp k)) (v := lf (fp k)) hx hb hK hP 5 1 rfl rfl (by omega) (by decide) rfl dX0_improveBy_61 ?_
    refine tn_lc_lt (x := ((mo k) + (lf (sp k)))) (y := (lf (fp k))) (tgt := 89) hx hb dX0_improveBy_62 dX0_improveBy_63 (by decide) (fun c_62 => ?_) (fun c_62 => ?_)
    · skip
      refine lv_iconst (v := nI 1) hx hb dX0_improveBy_89 (by decide) ?_
      refine lv_goto (tgt := 94) hx hb dX0_improveBy_90 (by decide) ?_
      refine lv_istore (lv' := [(7, .int (nI 1)), (6, .int ((sf (sp k)) + (nI 1))), (4, .long ((mo k) + (lf (sp k)))), (3, .int (nI (sp k))), (2, .int (nI (fp k))), (0, .ref h), (1, .int (nI k))]) hx hb dX0_improveBy_94 hl (by decide) rfl (fun ls hl => ?_)
      refine lv_iload hx hb dX0_improveBy_96 (lv_at hl 0 rfl) ?_
      refine lv_if_eq (tgt := 117) hx hb dX0_improveBy_98 (by decide) (fun c_98 => ?_) (fun c_98 => ?_)
      · skip
        exact absurd c_98 (by decide)
      · skip
        refine lv_aload_n hx hb dX0_improveBy_101 rfl (lv_at hl 5 rfl) ?_
        refine va_get (D := (dC, dI)) (ci := 0) (v := .ref a5) (C := RX0) (T := TX0) (N := 11) hx hb hts hin hown hK hP 0 rfl rfl 6 (by decide) kf24 (fun _ h9 => h9) rfl dX0_improveBy_102 ?_
        refine lv_iload_n hx hb dX0_improveBy_105 rfl (lv_at hl 4 rfl) ?_
        refine lv_lload hx hb dX0_improveBy_106 (lv_at hl 2 rfl) ?_
        refine tn_last (i := (fp k)) (f' := (vp_updL lf (fp k) ((mo k) + (lf (sp k))))) hx hb hK hP hD hS 5 1 rfl rfl (by omega) (by decide) rfl dX0_improveBy_108 (fun H locs hP hD hS => ?_)
        have hP : va_P (dC, dI) vwCl (tn_ws h a1 a2 a3 a4 a5 a6 a7 cI cL cZ cnt onc fp sp mo on (vp_updL lf (fp k) ((mo k) + (lf (sp k)))) sf rp rs rl) H := hP
        have hD : va_D A (tn_ws h a1 a2 a3 a4 a5 a6 a7 cI cL cZ cnt onc fp sp mo on (vp_updL lf (fp k) ((mo k) + (lf (sp k)))) sf rp rs rl) := hD
        refine lv_aload_n hx hb dX0_improveBy_109 rfl (lv_at hl 5 rfl) ?_
        refine va_get (D := (dC, dI)) (ci := 0) (v := .ref a6) (C := RX0) (T := TX0) (N := 11) hx hb hts hin hown hK hP 0 rfl rfl 7 (by decide) kf27 (fun _ h9 => h9) rfl dX0_improveBy_110 ?_
        refine lv_iload_n hx hb dX0_improveBy_113 rfl (lv_at hl 4 rfl) ?_
        refine lv_iload hx hb dX0_improveBy_114 (lv_at hl 1 rfl) ?_
        refine tn_iast (i := (fp k)) (f' := (upd sf (fp k) ((sf (sp k)) + (nI 1)))) hx hb hK hP hD hS 6 0 rfl rfl (by omega) (by decide) rfl dX0_improveBy_116 (fun H locs hP hD hS => ?_)
        have hP : va_P (dC, dI) vwCl (tn_ws h a1 a2 a3 a4 a5 a6 a7 cI cL cZ cnt onc fp sp mo on (vp_updL lf (fp k) ((mo k) + (lf (sp k)))) (upd sf (fp k) ((sf (sp k)) + (nI 1))) rp rs rl) H := hP
        have hD : va_D A (tn_ws h a1 a2 a3 a4 a5 a6 a7 cI cL cZ cnt onc fp sp mo on (vp_updL lf (fp k) ((mo k) + (lf (sp k)))) (upd sf (fp k) ((sf (sp k)) + (nI 1))) rp rs rl) := hD
        refine lv_iload hx hb dX0_improveBy_117 (lv_at hl 0 rfl) ?_
        exact W.zret (v := nI 1) hx hb hr rfl (fun t ht hW => ⟨⟨nI 1, (vp_updL lf (fp k) ((mo k) + (lf (sp k))), upd sf (fp k) ((sf (sp k)) + (nI 1))), rfl, Or.inl ⟨⟨c_23, Or.inl c_62⟩, rfl, rfl⟩, by rw [ht]; exact hP, va_K.moved hW.alike hK, hD⟩, hS.F ht⟩) hS.2.2 dX0_improveBy_119
    · skip
      refine lv_lload hx hb dX0_improveBy_66 (lv_at hl 1 rfl) ?_
      refine lv_aload_n hx hb dX0_improveBy_68 rfl (lv_at hl 4 rfl) ?_
      refine va_get (D := (dC, dI)) (ci := 0) (v := .ref a5) (C := RX0) (T := TX0) (N := 11) hx hb hts hin hown hK hP 0 rfl rfl 6 (by decide) kf24 (fun _ h9 => h9) rfl dX0_improveBy_69 ?_
      refine lv_iload_n hx hb dX0_improveBy_72 rfl (lv_at hl 3 rfl) ?_
      refine tn_lald (i := (fp k)) (v := lf (fp k)) hx hb hK hP 5 1 rfl rfl (by omega) (by decide) rfl dX0_improveBy_73 ?_
      refine tn_lc_ne (x := ((mo k) + (lf (sp k)))) (y := (lf (fp k))) (tgt := 93) hx hb dX0_improveBy_74 dX0_improveBy_75 (by decide) (fun c_74 => ?_) (fun c_74 => ?_)
      · skip
        refine lv_iconst (v := nI 0) hx hb dX0_improveBy_93 (by decide) ?_
        refine lv_istore (lv' := [(7, .int (nI 0)), (6, .int ((sf (sp k)) + (nI 1))), (4, .long ((mo k) + (lf (sp k)))), (3, .int (nI (sp k))), (2, .int (nI (fp k))), (0, .ref h), (1, .int (nI k))]) hx hb dX0_improveBy_94 hl (by decide) rfl (fun ls hl => ?_)
        refine lv_iload hx hb dX0_improveBy_96 (lv_at hl 0 rfl) ?_
        refine lv_if_eq (tgt := 117) hx hb dX0_improveBy_98 (by decide) (fun c_98 => ?_) (fun c_98 => ?_)
        · skip
          refine lv_iload hx hb dX0_improveBy_117 (lv_at hl 0 rfl) ?_
          exact W.zret (v := nI 0) hx hb hr rfl (fun t ht hW => ⟨⟨nI 0, (lf, sf), rfl, Or.inr ⟨fun h => h.2.elim (fun q => c_62 q) (fun q => c_74 q.1), rfl, rfl⟩, by rw [ht]; exact hP, va_K.moved hW.alike hK, hD⟩, hS.F ht⟩) hS.2.2 dX0_improveBy_119
        · skip
          exact absurd rfl c_98
      · skip
        refine lv_iload hx hb dX0_improveBy_78 (lv_at hl 0 rfl) ?_
        refine lv_aload_n hx hb dX0_improveBy_80 rfl (lv_at hl 4 rfl) ?_
        refine va_get (D := (dC, dI)) (ci := 0) (v := .ref a6) (C := RX0) (T := TX0) (N := 11) hx hb hts hin hown hK hP 0 rfl rfl 7 (by decide) kf27 (fun _ h9 => h9) rfl dX0_improveBy_81 ?_
        refine lv_iload_n hx hb dX0_improveBy_84 rfl (lv_at hl 3 rfl) ?_
        refine tn_iald (i := (fp k)) (v := sf (fp k)) hx hb hK hP 6 0 rfl rfl (by omega) (by decide) rfl dX0_improveBy_85 ?_
        refine lv_icmp_ge (tgt := 93) hx hb dX0_improveBy_86 (by decide) (fun c_86 => ?_) (fun c_86 => ?_)
        · skip
          refine lv_iconst (v := nI 0) hx hb dX0_improveBy_93 (by decide) ?_
          refine lv_istore (lv' := [(7, .int (nI 0)), (6, .int ((sf (sp k)) + (nI 1))), (4, .long ((mo k) + (lf (sp k)))), (3, .int (nI (sp k))), (2, .int (nI (fp k))), (0, .ref h), (1, .int (nI k))]) hx hb dX0_improveBy_94 hl (by decide) rfl (fun ls hl => ?_)
          refine lv_iload hx hb dX0_improveBy_96 (lv_at hl 0 rfl) ?_
          refine lv_if_eq (tgt := 117) hx hb dX0_improveBy_98 (by decide) (fun c_98 => ?_) (fun c_98 => ?_)
          · skip
            refine lv_iload hx hb dX0_improveBy_117 (lv_at hl 0 rfl) ?_
            exact W.zret (v := nI 0) hx hb hr rfl (fun t ht hW => ⟨⟨nI 0, (lf, sf), rfl, Or.inr ⟨fun h => h.2.elim (fun q => c_62 q) (fun q => Int32.not_lt.mpr c_86 q.2), rfl, rfl⟩, by rw [ht]; exact hP, va_K.moved hW.alike hK, hD⟩, hS.F ht⟩) hS.2.2 dX0_improveBy_119
          · skip
            exact absurd rfl c_98
        · skip
          refine lv_iconst (v := nI 1) hx hb dX0_improveBy_89 (by decide) ?_
          refine lv_goto (tgt := 94) hx hb dX0_improveBy_90 (by decide) ?_
          refine lv_istore (lv' := [(7, .int (nI 1)), (6, .int ((sf (sp k)) + (nI 1))), (4, .long ((mo k) + (lf (sp k)))), (3, .int (nI (sp k))), (2, .int (nI (fp k))), (0, .ref h), (1, .int (nI k))]) hx hb dX0_improveBy_94 hl (by decide) rfl (fun ls hl => ?_)
          refine lv_iload hx hb dX0_improveBy_96 (lv_at hl 0 rfl) ?_
          refine lv_if_eq (tgt := 117) hx hb dX0_improveBy_98 (by decide) (fun c_98 => ?_) (fun c_98 => ?_)
          · skip
            exact absurd c_98 (by decide)
          · skip
            refine lv_aload_n hx hb dX0_improveBy_101 rfl (lv_at hl 5 rfl) ?_
            refine va_get (D := (dC, dI)) (ci := 0) (v := .ref a5) (C := RX0) (T := TX0) (N := 11) hx hb hts hin hown hK hP 0 rfl rfl 6 (by decide) kf24 (fun _ h9 => h9) rfl dX0_improveBy_102 ?_
            refine lv_iload_n hx hb dX0_improveBy_105 rfl (lv_at hl 4 rfl) ?_
            refine lv_lload hx hb dX0_improveBy_106 (lv_at hl 2 rfl) ?_
            refine tn_last (i := (fp k)) (f' := (vp_updL lf (fp k) ((mo k) + (lf (sp k))))) hx hb hK hP hD hS 5 1 rfl rfl (by omega) (by decide) rfl dX0_improveBy_108 (fun H locs hP hD hS => ?_)
            have hP : va_P (dC, dI) vwCl (tn_ws h a1 a2 a3 a4 a5 a6 a7 cI cL cZ cnt onc fp sp mo on (vp_updL lf (fp k) ((mo k) + (lf (sp k)))) sf rp rs rl) H := hP
            have hD : va_D A (tn_ws h a1 a2 a3 a4 a5 a6 a7 cI cL cZ cnt onc fp sp mo on (vp_updL lf (fp k) ((mo k) + (lf (sp k)))) sf rp rs rl) := hD
            refine lv_aload_n hx hb dX0_improveBy_109 rfl (lv_at hl 5 rfl) ?_
            refine va_get (D := (dC, dI)) (ci := 0) (v := .ref a6) (C := RX0) (T := TX0) (N := 11) hx hb hts hin hown hK hP 0 rfl rfl 7 (by decide) kf27 (fun _ h9 => h9) rfl dX0_improveBy_110 ?_
            refine lv_iload_n hx hb dX0_improveBy_113 rfl (lv_at hl 4 rfl) ?_
            refine lv_iload hx hb dX0_improveBy_114 (lv_at hl 1 rfl) ?_
            refine tn_iast (i := (fp k)) (f' := (upd sf (fp k) ((sf (sp k)) + (nI 1)))) hx hb hK hP hD hS 6 0 rfl rfl (by omega) (by decide) rfl dX0_improveBy_116 (fun H locs hP hD hS => ?_)
            have hP : va_P (dC, dI) vwCl (tn_ws h a1 a2 a3 a4 a5 a6 a7 cI cL cZ cnt onc fp sp mo on (vp_updL lf (fp k) ((mo k) + (lf (sp k)))) (upd sf (fp k) ((sf (sp k)) + (nI 1))) rp rs rl) H := hP
            have hD : va_D A (tn_ws h a1 a2 a3 a4 a5 a6 a7 cI cL cZ cnt onc fp sp mo on (vp_updL lf (fp k) ((mo k) + (lf (sp k)))) (upd sf (fp k) ((sf (sp k)) + (nI 1))) rp rs rl) := hD
            refine lv_iload hx hb dX0_improveBy_117 (lv_at hl 0 rfl) ?_
            exact W.zret (v := nI 1) hx hb hr rfl (fun t ht hW => ⟨⟨nI 1, (vp_updL lf (fp k) ((mo k) + (lf (sp k))), upd sf (fp k) ((sf (sp k)) + (nI 1))), rfl, Or.inl ⟨⟨c_23, Or.inr ⟨c_74, Int32.not_le.mp c_86⟩⟩, rfl, rfl⟩, by rw [ht]; exact hP, va_K.moved hW.alike hK, hD⟩, hS.F ht⟩) hS.2.2 dX0_improveBy_119
  · skip
    refine lv_iconst (v := nI 0) hx hb dX0_improveBy_27 (by decide) ?_
    exact W.zret (v := nI 0) hx hb hr rfl (fun t ht hW => ⟨⟨nI 0, (lf, sf), rfl, Or.inr ⟨fun h => h.1 c_23, rfl, rfl⟩, by rw [ht]; exact hP, va_K.moved hW.alike hK, hD⟩, hS.F ht⟩) hS.2.2 dX0_improveBy_28
