set_option maxHeartbeats 4000000 in
set_option maxRecDepth 100000 in
/-- append(pt) -/
theorem cX0_append_ok (l : Launch) (dC : Nat → ClassId) (dI : Nat → Nat → Nat) (h a1 a2 a3 a4 a5 a6 a7 : Nat) (cI cL cZ : ClassId) (cnt onc : Nat) (fp sp : Nat → Nat) (mo : Nat → Int64) (on : Nat → Bool) (lf : Nat → Int64) (sf : Nat → Int32) (rp : Nat → Nat) (rs : Nat) (rl : Int64) (sz : Nat) (hrs : rs < 21) (pt : Nat) : Met l yX0_append wsX0_append ({ frames := 0, cells := 0, slots := 0, locals := 0 }) (va_Pc [.ref h, .int (nI pt)] (tn_Pre dC dI (tn_tys cI cL cZ) (tn_ws h a1 a2 a3 a4 a5 a6 a7 cI cL cZ cnt onc fp sp mo on lf sf rp rs rl) sz)) (va_Qv (S := Unit) (fun _ => True) (fun u t => tn_at dC dI (tn_tys cI cL cZ) (va_A (tn_ws h a1 a2 a3 a4 a5 a6 a7 cI cL cZ cnt onc fp sp mo on lf sf rp rs rl) sz) (tn_ws h a1 a2 a3 a4 a5 a6 a7 cI cL cZ cnt onc fp sp mo on lf sf (va_up rp rs pt) (rs + 1) rl) t) (va_A (tn_ws h a1 a2 a3 a4 a5 a6 a7 cI cL cZ cnt onc fp sp mo on lf sf rp rs rl) sz)) 0 0 (va_A (tn_ws h a1 a2 a3 a4 a5 a6 a7 cI cL cZ cnt onc fp sp mo on lf sf rp rs rl) sz) := by
  refine Met.ofW (cc := cX0_append) (maxL := 2) (ret := none) (by decide) rfl ?_
  intro p e s m args below meth c s₁ B hml hv
  obtain ⟨rfl, hsz, hP, hK, hD0⟩ := hv
  have hx := B.exec
  have hb := B.bytes
  have hr := B.returns
  have hts := atoms_spec (ws := wsX0_append) B.pre
  have hown : s.vm.findClass RX0 = some m.cls := findClass_of_methodNamed B.named
  have hlocks := B.notSynchronized
  subst hsz
  have hD := hD0.self (sz := s.heap.size)
  generalize hAe : va_A (tn_ws h a1 a2 a3 a4 a5 a6 a7 cI cL cZ cnt onc fp sp mo on lf sf rp rs rl) s.heap.size = A at hD ⊢
  have hA : ∀ q : Nat, s.heap.size ≤ q → A q := fun q h => by rw [← hAe]; exact Or.inr h
  have hS : va_S A s.heap s.heap [] := va_S.rf
  have hl := lv_entry ([.ref h, .int (nI pt)]) (n := 2) (Nat.le_of_ble_eq_true rfl)
  rw [lg_entry_eq]
  generalize (lg_sl ([.ref h, .int (nI pt)]) ++ List.replicate (2 - (lg_sl ([.ref h, .int (nI pt)])).length) Slot.unset).toArray = ls at hl ⊢
  have hl : lv_has ls 2 [(0, .ref h), (1, .int (nI pt))] := hl
  have kf65 := hts (.fieldLink RX0 65 "TimeNet" "rowSize" "I") (by decide +kernel)
  have kf30 := hts (.fieldLink RX0 30 "TimeNet" "rowPoints" "[I") (by decide +kernel)
  have hin : ∀ w ∈ u_ws RX0 TX0 11, w ∈ wsX0_append := by decide +kernel
  refine lv_aload_n hx hb dX0_append_0 rfl (lv_at hl 0 rfl) ?_
  refine va_get (D := (dC, dI)) (ci := 0) (v := .int (nI rs)) (C := RX0) (T := TX0) (N := 11) hx hb hts hin hown hK hP 0 rfl rfl 9 (by decide) kf65 (fun _ h9 => h9) rfl dX0_append_1 ?_
  refine lv_aload_n hx hb dX0_append_4 rfl (lv_at hl 0 rfl) ?_
  refine va_get (D := (dC, dI)) (ci := 0) (v := .ref a7) (C := RX0) (T := TX0) (N := 11) hx hb hts hin hown hK hP 0 rfl rfl 8 (by decide) kf30 (fun _ h9 => h9) rfl dX0_append_5 ?_
  refine va_alen (v := nI 21) hx hb hK hP 7 0 rfl rfl rfl dX0_append_8 ?_
  refine lv_icmp_ge (tgt := 32) hx hb dX0_append_9 (by decide) (fun c_9 => ?_) (fun c_9 => ?_)
  · skip
    exact absurd c_9 (nI_ge hrs (by decide))
  · skip
    refine lv_aload_n hx hb dX0_append_12 rfl (lv_at hl 0 rfl) ?_
    refine va_get (D := (dC, dI)) (ci := 0) (v := .ref a7) (C := RX0) (T := TX0) (N := 11) hx hb hts hin hown hK hP 0 rfl rfl 8 (by decide) kf30 (fun _ h9 => h9) rfl dX0_append_13 ?_
    refine lv_aload_n hx hb dX0_append_16 rfl (lv_at hl 0 rfl) ?_
    refine va_get (D := (dC, dI)) (ci := 0) (v := .int (nI rs)) (C := RX0) (T := TX0) (N := 11) hx hb hts hin hown hK hP 0 rfl rfl 9 (by decide) kf65 (fun _ h9 => h9) rfl dX0_append_17 ?_
    refine lv_iload_n hx hb dX0_append_20 rfl (lv_at hl 1 rfl) ?_
    refine tn_iast (i := rs) (f' := (fun k => nI (va_up rp rs pt k))) hx hb hK hP hD hS 7 0 rfl rfl (by omega) (by decide) (tn_updN rp rs pt) dX0_append_21 (fun H locs hP hD hS => ?_)
    have hP : va_P (dC, dI) vwCl (tn_ws h a1 a2 a3 a4 a5 a6 a7 cI cL cZ cnt onc fp sp mo on lf sf (va_up rp rs pt) rs rl) H := hP
    have hD : va_D A (tn_ws h a1 a2 a3 a4 a5 a6 a7 cI cL cZ cnt onc fp sp mo on lf sf (va_up rp rs pt) rs rl) := hD
    refine lv_aload_n hx hb dX0_append_22 rfl (lv_at hl 0 rfl) ?_
    refine lv_dup hx hb dX0_append_23 rfl ?_
    refine va_get (D := (dC, dI)) (ci := 0) (v := .int (nI rs)) (C := RX0) (T := TX0) (N := 11) hx hb hts hin hown hK hP 0 rfl rfl 9 (by decide) kf65 (fun _ h9 => h9) rfl dX0_append_24 ?_
    refine lv_iconst (v := nI 1) hx hb dX0_append_27 (by decide) ?_
    refine tn_iadd (a := rs) (b := 1) hx hb dX0_append_28 ?_
    refine va_put (D := (dC, dI)) (ci := 0) (v := .int (nI (rs + 1))) (ty := .int) (C := RX0) (T := TX0) (N := 11) hx hb hts hin tyX0 tyX0_ok nmX0 hown hK hP hD hS 0 rfl rfl 9 (by decide) kf65 (fun _ h9 => h9) rfl (by decide +kernel) rfl rfl (Nat.le_of_ble_eq_true rfl) dX0_append_29 (fun H locs hP hD hS => ?_)
    have hP : va_P (dC, dI) vwCl (tn_ws h a1 a2 a3 a4 a5 a6 a7 cI cL cZ cnt onc fp sp mo on lf sf (va_up rp rs pt) (rs + 1) rl) H := hP
    have hD : va_D A (tn_ws h a1 a2 a3 a4 a5 a6 a7 cI cL cZ cnt onc fp sp mo on lf sf (va_up rp rs pt) (rs + 1) rl) := hD
    exact W.vret hx hb hr (fun t ht hW => ⟨⟨(), rfl, trivial, by rw [ht]; exact hP, va_K.moved hW.alike hK, hD⟩, hS.F ht⟩) hS.2.2 dX0_append_32
set_option maxHeartbeats 4000000 in
set_option maxRecDepth 100000 in
/-- beginsBest(k) -/
theorem cX0_beginsBest_ok (l : Launch) (dC : Nat → ClassId) (dI : Nat → Nat → Nat) (h a1 a2 a3 a4 a5 a6 a7 : Nat) (cI cL cZ : ClassId) (cnt onc : Nat) (fp sp : Nat → Nat) (mo : Nat → Int64) (on : Nat → Bool) (lf : Nat → Int64) (sf : Nat → Int32) (rp : Nat → Nat) (rs : Nat) (rl : Int64) (sz : Nat) (g : tn_good cnt fp sp mo) (k : Nat) (hk : k < cnt) : Met l yX0_beginsBest wsX0_beginsBest ({ frames := 0, cells := 0, slots := 0, locals := 0 }) (va_Pc [.ref h, .int (nI k)] (tn_Pre dC dI (tn_tys cI cL cZ) (tn_ws h a1 a2 a3 a4 a5 a6 a7 cI cL cZ cnt onc fp sp mo on lf sf rp rs rl) sz)) (va_Qi (S := Unit) (fun r _ => ((lf (sp k) ≠ tn_MX ∧ mo k + lf (sp k) = lf (fp k) ∧ sf (sp k) + 1 = sf (fp k)) ∧ r = nI 1) ∨ (¬ (lf (sp k) ≠ tn_MX ∧ mo k + lf (sp k) = lf (fp k) ∧ sf (sp k) + 1 = sf (fp k)) ∧ r = nI 0)) (fun u t => tn_at dC dI (tn_tys cI cL cZ) (va_A (tn_ws h a1 a2 a3 a4 a5 a6 a7 cI cL cZ cnt onc fp sp mo on lf sf rp rs rl) sz) (tn_ws h a1 a2 a3 a4 a5 a6 a7 cI cL cZ cnt onc fp sp mo on lf sf rp rs rl) t) (va_A (tn_ws h a1 a2 a3 a4 a5 a6 a7 cI cL cZ cnt onc fp sp mo on lf sf rp rs rl) sz)) 0 0 (va_A (tn_ws h a1 a2 a3 a4 a5 a6 a7 cI cL cZ cnt onc fp sp mo on lf sf rp rs rl) sz) := by
  refine Met.ofW (cc := cX0_beginsBest) (maxL := 4) (ret := (some .boolean)) (by decide) rfl ?_
  intro p e s m args below meth c s₁ B hml hv
  obtain ⟨rfl, hsz, hP, hK, hD0⟩ := hv
  have hx := B.exec
  have hb := B.bytes
  have hr := B.returns
  have hts := atoms_spec (ws := wsX0_beginsBest) B.pre
  have hown : s.vm.findClass RX0 = some m.cls := findClass_of_methodNamed B.named
  have hlocks := B.notSynchronized
  subst hsz
  have hD := hD0.self (sz := s.heap.size)
  generalize hAe : va_A (tn_ws h a1 a2 a3 a4 a5 a6 a7 cI cL cZ cnt onc fp sp mo on lf sf rp rs rl) s.heap.size = A at hD ⊢
  have hA : ∀ q : Nat, s.heap.size ≤ q → A q := fun q h => by rw [← hAe]; exact Or.inr h
  have hS : va_S A s.heap s.heap [] := va_S.rf
  have hl := lv_entry ([.ref h, .int (nI k)]) (n := 4) (Nat.le_of_ble_eq_true rfl)
  rw [lg_entry_eq]
  generalize (lg_sl ([.ref h, .int (nI k)]) ++ List.replicate (4 - (lg_sl ([.ref h, .int (nI k)])).length) Slot.unset).toArray = ls at hl ⊢
  have hl : lv_has ls 4 [(0, .ref h), (1, .int (nI k))] := hl
  have kf9 := hts (.fieldLink RX0 9 "TimeNet" "firstPoint" "[I") (by decide +kernel)
  have kf13 := hts (.fieldLink RX0 13 "TimeNet" "secondPoint" "[I") (by decide +kernel)
  have kf24 := hts (.fieldLink RX0 24 "TimeNet" "lengthFrom" "[J") (by decide +kernel)
  have kc75 := hts (.constantLong RX0 75 (9223372036854775807)) (by decide +kernel)
  have kf16 := hts (.fieldLink RX0 16 "TimeNet" "most" "[J") (by decide +kernel)
  have kf27 := hts (.fieldLink RX0 27 "TimeNet" "stepsFrom" "[I") (by decide +kernel)
  have hin : ∀ w ∈ u_ws RX0 TX0 11, w ∈ wsX0_beginsBest := by decide +kernel
  have hk0 := (g.2 k hk).1
  have hk1 := (g.2 k hk).2.1
  have hc := g.1
  refine lv_aload_n hx hb dX0_beginsBest_0 rfl (lv_at hl 0 rfl) ?_
  refine va_get (D := (dC, dI)) (ci := 0) (v := .ref a1) (C := RX0) (T := TX0) (N := 11) hx hb hts hin hown hK hP 0 rfl rfl 0 (by decide) kf9 (fun _ h9 => h9) rfl dX0_beginsBest_1 ?_
  refine lv_iload_n hx hb dX0_beginsBest_4 rfl (lv_at hl 1 rfl) ?_
  refine tn_iald (i := k) (v := nI (fp k)) hx hb hK hP 1 0 rfl rfl (by omega) (by decide) rfl dX0_beginsBest_5 ?_
  refine lv_istore_n (lv' := [(2, .int (nI (fp k))), (0, .ref h), (1, .int (nI k))]) hx hb dX0_beginsBest_6 rfl hl (by decide) rfl (fun ls hl => ?_)
  refine lv_aload_n hx hb dX0_beginsBest_7 rfl (lv_at hl 1 rfl) ?_
  refine va_get (D := (dC, dI)) (ci := 0) (v := .ref a2) (C := RX0) (T := TX0) (N := 11) hx hb hts hin hown hK hP 0 rfl rfl 1 (by decide) kf13 (fun _ h9 => h9) rfl dX0_beginsBest_8 ?_
  refine lv_iload_n hx hb dX0_beginsBest_11 rfl (lv_at hl 2 rfl) ?_
  refine tn_iald (i := k) (v := nI (sp k)) hx hb hK hP 2 0 rfl rfl (by omega) (by decide) rfl dX0_beginsBest_12 ?_
  refine lv_istore_n (lv' := [(3, .int (nI (sp k))), (2, .int (nI (fp k))), (0, .ref h), (1, .int (nI k))]) hx hb dX0_beginsBest_13 rfl hl (by decide) rfl (fun ls hl => ?_)
  refine lv_aload_n hx hb dX0_beginsBest_14 rfl (lv_at hl 2 rfl) ?_
  refine va_get (D := (dC, dI)) (ci := 0) (v := .ref a5) (C := RX0) (T := TX0) (N := 11) hx hb hts hin hown hK hP 0 rfl rfl 6 (by decide) kf24 (fun _ h9 => h9) rfl dX0_beginsBest_15 ?_
  refine lv_iload_n hx hb dX0_beginsBest_18 rfl (lv_at hl 0 rfl) ?_
  refine tn_lald (i := (sp k)) (v := lf (sp k)) hx hb hK hP 5 1 rfl rfl (by omega) (by decide) rfl dX0_beginsBest_19 ?_
  refine lv_ldc2 (v := 9223372036854775807) hx hb hown kc75 dX0_beginsBest_20 ?_
  refine tn_lc_eq (x := (lf (sp k))) (y := 9223372036854775807) (tgt := 71) hx hb dX0_beginsBest_23 dX0_beginsBest_24 (by decide) (fun c_23 => ?_) (fun c_23 => ?_)
  · skip
    refine lv_iconst (v := nI 0) hx hb dX0_beginsBest_71 (by decide) ?_
    exact W.zret (v := nI 0) hx hb hr rfl (fun t ht hW => ⟨⟨nI 0, (), rfl, Or.inr ⟨fun q => q.1 c_23, rfl⟩, by rw [ht]; exact hP, va_K.moved hW.alike hK, hD⟩, hS.F ht⟩) hS.2.2 dX0_beginsBest_72
  · skip
    refine lv_aload_n hx hb dX0_beginsBest_27 rfl (lv_at hl 2 rfl) ?_
    refine va_get (D := (dC, dI)) (ci := 0) (v := .ref a3) (C := RX0) (T := TX0) (N := 11) hx hb hts hin hown hK hP 0 rfl rfl 2 (by decide) kf16 (fun _ h9 => h9) rfl dX0_beginsBest_28 ?_
    refine lv_iload_n hx hb dX0_beginsBest_31 rfl (lv_at hl 3 rfl) ?_
    refine tn_lald (i := k) (v := mo k) hx hb hK hP 3 1 rfl rfl (by omega) (by decide) rfl dX0_beginsBest_32 ?_
    refine lv_aload_n hx hb dX0_beginsBest_33 rfl (lv_at hl 2 rfl) ?_
    refine va_get (D := (dC, dI)) (ci := 0) (v := .ref a5) (C := RX0) (T := TX0) (N := 11) hx hb hts hin hown hK hP 0 rfl rfl 6 (by decide) kf24 (fun _ h9 => h9) rfl dX0_beginsBest_34 ?_
    refine lv_iload_n hx hb dX0_beginsBest_37 rfl (lv_at hl 0 rfl) ?_
    refine tn_lald (i := (sp k)) (v := lf (sp k)) hx hb hK hP 5 1 rfl rfl (by omega) (by decide) rfl dX0_beginsBest_38 ?_
    refine lv_ladd hx hb dX0_beginsBest_39 ?_
    refine lv_aload_n hx hb dX0_beginsBest_40 rfl (lv_at hl 2 rfl) ?_
    refine va_get (D := (dC, dI)) (ci := 0) (v := .ref a5) (C := RX0) (T := TX0) (N := 11) hx hb hts hin hown hK hP 0 rfl rfl 6 (by decide) kf24 (fun _ h9 => h9) rfl dX0_beginsBest_41 ?_
    refine lv_iload_n hx hb dX0_beginsBest_44 rfl (lv_at hl 1 rfl) ?_
    refine tn_lald (i := (fp k)) (v := lf (fp k)) hx hb hK hP 5 1 rfl rfl (by omega) (by decide) rfl dX0_beginsBest_45 ?_
    refine tn_lc_ne (x := ((mo k) + (lf (sp k)))) (y := (lf (fp k))) (tgt := 71) hx hb dX0_beginsBest_46 dX0_beginsBest_47 (by decide) (fun c_46 => ?_) (fun c_46 => ?_)
    · skip
      refine lv_iconst (v := nI 0) hx hb dX0_beginsBest_71 (by decide) ?_
      exact W.zret (v := nI 0) hx hb hr rfl (fun t ht hW => ⟨⟨nI 0, (), rfl, Or.inr ⟨fun q => c_46 q.2.1, rfl⟩, by rw [ht]; exact hP, va_K.moved hW.alike hK, hD⟩, hS.F ht⟩) hS.2.2 dX0_beginsBest_72
    · skip
      refine lv_aload_n hx hb dX0_beginsBest_50 rfl (lv_at hl 2 rfl) ?_
      refine va_get (D := (dC, dI)) (ci := 0) (v := .ref a6) (C := RX0) (T := TX0) (N := 11) hx hb hts hin hown hK hP 0 rfl rfl 7 (by decide) kf27 (fun _ h9 => h9) rfl dX0_beginsBest_51 ?_
      refine lv_iload_n hx hb dX0_beginsBest_54 rfl (lv_at hl 0 rfl) ?_
      refine tn_iald (i := (sp k)) (v := sf (sp k)) hx hb hK hP 6 0 rfl rfl (by omega) (by decide) rfl dX0_beginsBest_55 ?_
      refine lv_iconst (v := nI 1) hx hb dX0_beginsBest_56 (by decide) ?_
      refine lv_iadd hx hb dX0_beginsBest_57 ?_
      refine lv_aload_n hx hb dX0_beginsBest_58 rfl (lv_at hl 2 rfl) ?_
      refine va_get (D := (dC, dI)) (ci := 0) (v := .ref a6) (C := RX0) (T := TX0) (N := 11) hx hb hts hin hown hK hP 0 rfl rfl 7 (by decide) kf27 (fun _ h9 => h9) rfl dX0_beginsBest_59 ?_
      refine lv_iload_n hx hb dX0_beginsBest_62 rfl (lv_at hl 1 rfl) ?_
      refine tn_iald (i := (fp k)) (v := sf (fp k)) hx hb hK hP 6 0 rfl rfl (by omega) (by decide) rfl dX0_beginsBest_63 ?_
      refine lv_icmp_ne (tgt := 71) hx hb dX0_beginsBest_64 (by decide) (fun c_64 => ?_) (fun c_64 => ?_)
      · skip
        refine lv_iconst (v := nI 0) hx hb dX0_beginsBest_71 (by decide) ?_
        exact W.zret (v := nI 0) hx hb hr rfl (fun t ht hW => ⟨⟨nI 0, (), rfl, Or.inr ⟨fun q => c_64 q.2.2, rfl⟩, by rw [ht]; exact hP, va_K.moved hW.alike hK, hD⟩, hS.F ht⟩) hS.2.2 dX0_beginsBest_72
      · skip
        refine lv_iconst (v := nI 1) hx hb dX0_beginsBest_67 (by decide) ?_
        refine lv_goto (tgt := 72) hx hb dX0_beginsBest_68 (by decide) ?_
        exact W.zret (v := nI 1) hx hb hr rfl (fun t ht hW => ⟨⟨nI 1, (), rfl, Or.inl ⟨⟨c_23, c_46, c_64⟩, rfl⟩, by rw [ht]; exact hP, va_K.moved hW.alike hK, hD⟩, hS.F ht⟩) hS.2.2 dX0_beginsBest_72
set_option maxHeartbeats 4000000 in
set_option maxRecDepth 100000 in
/-- nextOfBest(pt) -/
theorem cX0_nextOfBest_ok (l : Launch) (dC : Nat → ClassId) (dI : Nat → Nat → Nat) (h a1 a2 a3 a4 a5 a6 a7 : Nat) (cI cL cZ : ClassId) (cnt onc : Nat) (fp sp : Nat → Nat) (mo : Nat → Int64) (on : Nat → Bool) (lf : Nat → Int64) (sf : Nat → Int32) (rp : Nat → Nat) (rs : Nat) (rl : Int64) (sz : Nat) (g : tn_good cnt fp sp mo) (pt : Nat) (hpt : pt ≤ 20) : Met l yX0_nextOfBest wsX0_nextOfBest ({ frames := 1, cells := 0, slots := 0, locals := 23 }) (va_Pc [.ref h, .int (nI pt)] (tn_Pre dC dI (tn_tys cI cL cZ) (tn_ws h a1 a2 a3 a4 a5 a6 a7 cI cL cZ cnt onc fp sp mo on lf sf rp rs rl) sz)) (va_Qi (S := Unit) (fun r _ => r = nI (tn_nxt fp sp mo on (lf, sf) pt cnt)) (fun u t => tn_at dC dI (tn_tys cI cL cZ) (va_A (tn_ws h a1 a2 a3 a4 a5 a6 a7 cI cL cZ cnt onc fp sp mo on lf sf rp rs rl) sz) (tn_ws h a1 a2 a3 a4 a5 a6 a7 cI cL cZ cnt onc fp sp mo on lf sf rp rs rl) t) (va_A (tn_ws h a1 a2 a3 a4 a5 a6 a7 cI cL cZ cnt onc fp sp mo on lf sf rp rs rl) sz)) 0 0 (va_A (tn_ws h a1 a2 a3 a4 a5 a6 a7 cI cL cZ cnt onc fp sp mo on lf sf rp rs rl) sz) := by
  refine Met.ofW (cc := cX0_nextOfBest) (maxL := 4) (ret := (some .int)) (by decide) rfl ?_
  intro p e s m args below meth c s₁ B hml hv
  obtain ⟨rfl, hsz, hP, hK, hD0⟩ := hv
  have hx := B.exec
  have hb := B.bytes
  have hr := B.returns
  have hts := atoms_spec (ws := wsX0_nextOfBest) B.pre
  have hown : s.vm.findClass RX0 = some m.cls := findClass_of_methodNamed B.named
  have hlocks := B.notSynchronized
  subst hsz
  have hD := hD0.self (sz := s.heap.size)
  generalize hAe : va_A (tn_ws h a1 a2 a3 a4 a5 a6 a7 cI cL cZ cnt onc fp sp mo on lf sf rp rs rl) s.heap.size = A at hD ⊢
  have hA : ∀ q : Nat, s.heap.size ≤ q → A q := fun q h => by rw [← hAe]; exact Or.inr h
  have hS : va_S A s.heap s.heap [] := va_S.rf
  have hl := lv_entry ([.ref h, .int (nI pt)]) (n := 4) (Nat.le_of_ble_eq_true rfl)
  rw [lg_entry_eq]
  generalize (lg_sl ([.ref h, .int (nI pt)]) ++ List.replicate (4 - (lg_sl ([.ref h, .int (nI pt)])).length) Slot.unset).toArray = ls at hl ⊢
  have hl : lv_has ls 4 [(0, .ref h), (1, .int (nI pt))] := hl
  have kf33 := hts (.fieldLink RX0 33 "TimeNet" "count" "I") (by decide +kernel)
  have kf9 := hts (.fieldLink RX0 9 "TimeNet" "firstPoint" "[I") (by decide +kernel)
  have kf13 := hts (.fieldLink RX0 13 "TimeNet" "secondPoint" "[I") (by decide +kernel)
  have kf20 := hts (.fieldLink RX0 20 "TimeNet" "isOn" "[Z") (by decide +kernel)
  have hin : ∀ w ∈ u_ws RX0 TX0 11, w ∈ wsX0_nextOfBest := by decide +kernel
  have hc := g.1
  have loop : ∀ (n : Nat) (k : Nat) (z : Nat) (H : Heap) (locs : List Loc) (ls : Array Slot), k ≤ cnt → cnt < k + n → tn_nxt fp sp mo on (lf, sf) pt k = z → va_P (dC, dI) vwCl (tn_ws h a1 a2 a3 a4 a5 a6 a7 cI cL cZ cnt onc fp sp mo on lf sf rp rs rl) H → va_D A (tn_ws h a1 a2 a3 a4 a5 a6 a7 cI cL cZ cnt onc fp sp mo on lf sf rp rs rl) → va_S A s.heap H locs → lv_has ls 4 [(0, .ref h), (1, .int (nI pt)), (2, .int (nI z)), (3, .int (nI k))] → W p l e (headSpec wsX0_nextOfBest ({ frames := 1, cells := 0, slots := 0, locals := 23 })).room s m ([.ref h, .int (nI pt)] : List Value).toArray below meth c H locs 0 0 (MQ below (va_Qi (S := Unit) (fun r _ => r = nI (tn_nxt fp sp mo on (lf, sf) pt cnt)) (fun u t => tn_at dC dI (tn_tys cI cL cZ) A (tn_ws h a1 a2 a3 a4 a5 a6 a7 cI cL cZ cnt onc fp sp mo on lf sf rp rs rl) t) A) (([.ref h, .int (nI pt)] : List Value).toArray) s 0 0 A) (F0 m 5 ls []) := by
    intro n
    induction n with
    | zero => intro k z H locs ls hk1 hk9 hz _ _ _ _; exact absurd hk9 (by omega)
    | succ n ih =>
      intro k z H locs ls hk1 hk9 hz hP hD hS hl
      subst hz
      refine lv_iload_n hx hb dX0_nextOfBest_5 rfl (lv_at hl 3 rfl) ?_
      refine lv_aload_n hx hb dX0_nextOfBest_6 rfl (lv_at hl 0 rfl) ?_
      refine va_get (D := (dC, dI)) (ci := 0) (v := .int (nI cnt)) (C := RX0) (T := TX0) (N := 11) hx hb hts hin hown hK hP 0 rfl rfl 4 (by decide) kf33 (fun _ h9 => h9) rfl dX0_nextOfBest_7 ?_
      refine lv_icmp_ge (tgt := 63) hx hb dX0_nextOfBest_10 (by decide) (fun c_10 => ?_) (fun c_10 => ?_)
      · skip
        have hkc : k = cnt := Nat.le_antisymm hk1 ((nI_leI (by omega) (by omega)).mp c_10)
        subst hkc
        refine lv_iload_n hx hb dX0_nextOfBest_63 rfl (lv_at hl 2 rfl) ?_
        exact W.iret (v := nI (tn_nxt fp sp mo on (lf, sf) pt k)) hx hb hr (fun t ht hW => ⟨⟨nI (tn_nxt fp sp mo on (lf, sf) pt k), (), rfl, rfl, by rw [ht]; exact hP, va_K.moved hW.alike hK, hD⟩, hS.F ht⟩) hS.2.2 dX0_nextOfBest_64
      · skip
        have hkc : k < cnt := Nat.lt_of_not_le (fun q => c_10 (nI_le q (by omega)))
        have hk2 := (g.2 k hkc).1
        have hk3 := (g.2 k hkc).2.1
        have hnl := tn_nxt_le fp sp mo on (lf, sf) pt k
        refine lv_aload_n hx hb dX0_nextOfBest_13 rfl (lv_at hl 0 rfl) ?_
        refine va_get (D := (dC, dI)) (ci := 0) (v := .ref a1) (C := RX0) (T := TX0) (N := 11) hx hb hts hin hown hK hP 0 rfl rfl 0 (by decide) kf9 (fun _ h9 => h9) rfl dX0_nextOfBest_14 ?_
        refine lv_iload_n hx hb dX0_nextOfBest_17 rfl (lv_at hl 3 rfl) ?_
        refine tn_iald (i := k) (v := nI (fp k)) hx hb hK hP 1 0 rfl rfl (by omega) (by decide) rfl dX0_nextOfBest_18 ?_
        refine lv_iload_n hx hb dX0_nextOfBest_19 rfl (lv_at hl 1 rfl) ?_
        refine lv_icmp_ne (tgt := 57) hx hb dX0_nextOfBest_20 (by decide) (fun c_20 => ?_) (fun c_20 => ?_)
        · skip
          have hfk : fp k ≠ pt := fun q => c_20 (by rw [q])
          refine lv_iinc (v := nI (k + 1)) (lv' := [(3, .int (nI (k + 1))), (0, .ref h), (1, .int (nI pt)), (2, .int (nI (tn_nxt fp sp mo on (lf, sf) pt k)))]) hx hb dX0_nextOfBest_57 hl (k := 3) rfl (tn_inc k) (by decide) rfl (fun ls hl => ?_)
          refine lv_goto (tgt := 5) hx hb dX0_nextOfBest_60 (by decide) ?_
          exact ih (k + 1) _ _ _ _ hkc (by omega) (by rw [tn_nxt, if_neg (fun q => hfk q.1)]) hP hD hS (lv_sub hl [1, 2, 3, 0] rfl)
        · skip
          have hfk : fp k = pt := (nI_eq (by omega) (by omega)).mp c_20
          refine lv_aload_n hx hb dX0_nextOfBest_23 rfl (lv_at hl 0 rfl) ?_
          refine va_get (D := (dC, dI)) (ci := 0) (v := .ref a2) (C := RX0) (T := TX0) (N := 11) hx hb hts hin hown hK hP 0 rfl rfl 1 (by decide) kf13 (fun _ h9 => h9) rfl dX0_nextOfBest_24 ?_
          refine lv_iload_n hx hb dX0_nextOfBest_27 rfl (lv_at hl 3 rfl) ?_
          refine tn_iald (i := k) (v := nI (sp k)) hx hb hK hP 2 0 rfl rfl (by omega) (by decide) rfl dX0_nextOfBest_28 ?_
          refine lv_iload_n hx hb dX0_nextOfBest_29 rfl (lv_at hl 2 rfl) ?_
          refine lv_icmp_ge (tgt := 57) hx hb dX0_nextOfBest_30 (by decide) (fun c_30 => ?_) (fun c_30 => ?_)
          · skip
            have hsk : ¬ sp k < tn_nxt fp sp mo on (lf, sf) pt k := Nat.not_lt.mpr ((nI_leI (by omega) (by omega)).mp c_30)
            refine lv_iinc (v := nI (k + 1)) (lv' := [(3, .int (nI (k + 1))), (0, .ref h), (1, .int (nI pt)), (2, .int (nI (tn_nxt fp sp mo on (lf, sf) pt k)))]) hx hb dX0_nextOfBest_57 hl (k := 3) rfl (tn_inc k) (by decide) rfl (fun ls hl => ?_)
            refine lv_goto (tgt := 5) hx hb dX0_nextOfBest_60 (by decide) ?_
            exact ih (k + 1) _ _ _ _ hkc (by omega) (by rw [tn_nxt, if_neg (fun q => hsk q.2.1)]) hP hD hS (lv_sub hl [1, 2, 3, 0] rfl)
          · skip
            have hsk : sp k < tn_nxt fp sp mo on (lf, sf) pt k := Nat.lt_of_not_le (fun q => c_30 (nI_le q (by omega)))
            refine lv_aload_n hx hb dX0_nextOfBest_33 rfl (lv_at hl 0 rfl) ?_
            refine va_get (D := (dC, dI)) (ci := 0) (v := .ref a4) (C := RX0) (T := TX0) (N := 11) hx hb hts hin hown hK hP 0 rfl rfl 3 (by decide) kf20 (fun _ h9 => h9) rfl dX0_nextOfBest_34 ?_
            refine lv_iload_n hx hb dX0_nextOfBest_37 rfl (lv_at hl 3 rfl) ?_
            refine tn_zald (i := k) (v := tn_b (on k)) hx hb hK hP 4 2 rfl rfl (by omega) (by decide) rfl dX0_nextOfBest_38 ?_
            refine lv_if_eq (tgt := 57) hx hb dX0_nextOfBest_39 (by decide) (fun c_39 => ?_) (fun c_39 => ?_)
            · skip
              have ho := tn_b_eq0 c_39
              refine lv_iinc (v := nI (k + 1)) (lv' := [(3, .int (nI (k + 1))), (0, .ref h), (1, .int (nI pt)), (2, .int (nI (tn_nxt fp sp mo on (lf, sf) pt k)))]) hx hb dX0_nextOfBest_57 hl (k := 3) rfl (tn_inc k) (by decide) rfl (fun ls hl => ?_)
              refine lv_goto (tgt := 5) hx hb dX0_nextOfBest_60 (by decide) ?_
              exact ih (k + 1) _ _ _ _ hkc (by omega) (by rw [tn_nxt, if_neg (fun q => by rw [ho] at q; exact absurd q.2.2.1 (by decide))]) hP hD hS (lv_sub hl [1, 2, 3, 0] rfl)
            · skip
              have ho := tn_b_ne0 c_39
              refine lv_aload_n hx hb dX0_nextOfBest_42 rfl (lv_at hl 0 rfl) ?_
              refine lv_iload_n hx hb dX0_nextOfBest_43 rfl (lv_at hl 3 rfl) ?_
              have hF := tn_freeA hD hS hA
              refine va_calli (va_runV (As := [.int (nI k)]) (rest := []) ⟨hx, hb, hml, hown, hts⟩ (cX0_beginsBest_ok l dC dI h a1 a2 a3 a4 a5 a6 a7 cI cL cZ cnt onc fp sp mo on lf sf rp rs rl H.size g k hkc) (cwV 1 hts gX0_nextOfBest_X0_beginsBest rfl rfl rfl (by decide +kernel) ⟨Nat.le_of_ble_eq_true rfl, Nat.le_of_ble_eq_true rfl⟩) (tn_preV hK hP hD (ci := 0) rfl 0 rfl) rfl rfl hl.1 rfl (lv_room (Nat.le_of_ble_eq_true rfl)) dX0_nextOfBest_44 ⟨Nat.le_of_ble_eq_true rfl, Nat.le_of_ble_eq_true rfl⟩) hS (fun q _ h => hF q h) hF (fun r_44 u_44 t H1 locs ht hvm hw_44 hB hz1 hk1 hS => ?_)
              obtain ⟨hP1, -, hD1⟩ := hB
              rw [ht] at hP1
              have hD := hD1.weaken (fun _ q _ hq => hF q.1 hq)
              clear hP hk1 hF hz1 ht hvm hD1
              generalize H1 = H at hP1 hS ⊢
              have hP := hP1
              clear hP1
              refine lv_if_eq (tgt := 57) hx hb dX0_nextOfBest_47 (by decide) (fun c_47 => ?_) (fun c_47 => ?_)
              · skip
                have hbb : ¬ (lf (sp k) ≠ tn_MX ∧ mo k + lf (sp k) = lf (fp k) ∧ sf (sp k) + 1 = sf (fp k)) := by
                  rcases hw_44 with ⟨_, q⟩ | ⟨q, _⟩
                  · exact absurd (q ▸ c_47 : nI 1 = 0) (by decide)
                  · exact q
                refine lv_iinc (v := nI (k + 1)) (lv' := [(3, .int (nI (k + 1))), (0, .ref h), (1, .int (nI pt)), (2, .int (nI (tn_nxt fp sp mo on (lf, sf) pt k)))]) hx hb dX0_nextOfBest_57 hl (k := 3) rfl (tn_inc k) (by decide) rfl (fun ls hl => ?_)
                refine lv_goto (tgt := 5) hx hb dX0_nextOfBest_60 (by decide) ?_
                exact ih (k + 1) _ _ _ _ hkc (by omega) (by rw [tn_nxt, if_neg (fun q => hbb q.2.2.2)]) hP hD hS (lv_sub hl [1, 2, 3, 0] rfl)
              · skip
                have hbb : (lf (sp k) ≠ tn_MX ∧ mo k + lf (sp k) = lf (fp k) ∧ sf (sp k) + 1 = sf (fp k)) := by
                  rcases hw_44 with ⟨q, _⟩ | ⟨_, q⟩
                  · exact q
                  · exact absurd (q : r_44 = 0) c_47
                refine lv_aload_n hx hb dX0_nextOfBest_50 rfl (lv_at hl 0 rfl) ?_
                refine va_get (D := (dC, dI)) (ci := 0) (v := .ref a2) (C := RX0) (T := TX0) (N := 11) hx hb hts hin hown hK hP 0 rfl rfl 1 (by decide) kf13 (fun _ h9 => h9) rfl dX0_nextOfBest_51 ?_
                refine lv_iload_n hx hb dX0_nextOfBest_54 rfl (lv_at hl 3 rfl) ?_
                refine tn_iald (i := k) (v := nI (sp k)) hx hb hK hP 2 0 rfl rfl (by omega) (by decide) rfl dX0_nextOfBest_55 ?_
                refine lv_istore_n (lv' := [(2, .int (nI (sp k))), (0, .ref h), (1, .int (nI pt)), (3, .int (nI k))]) hx hb dX0_nextOfBest_56 rfl hl (by decide) rfl (fun ls hl => ?_)
                refine lv_iinc (v := nI (k + 1)) (lv' := [(3, .int (nI (k + 1))), (2, .int (nI (sp k))), (0, .ref h), (1, .int (nI pt))]) hx hb dX0_nextOfBest_57 hl (k := 3) rfl (tn_inc k) (by decide) rfl (fun ls hl => ?_)
                refine lv_goto (tgt := 5) hx hb dX0_nextOfBest_60 (by decide) ?_
                exact ih (k + 1) _ _ _ _ hkc (by omega) (by rw [tn_nxt, if_pos ⟨hfk, hsk, ho, hbb⟩]) hP hD hS (lv_sub hl [2, 3, 1, 0] rfl)
  refine lv_bipush (v := nI 20) hx hb dX0_nextOfBest_0 (by decide) ?_
  refine lv_istore_n (lv' := [(2, .int (nI 20)), (0, .ref h), (1, .int (nI pt))]) hx hb dX0_nextOfBest_2 rfl hl (by decide) rfl (fun ls hl => ?_)
  refine lv_iconst (v := nI 0) hx hb dX0_nextOfBest_3 (by decide) ?_
  refine lv_istore_n (lv' := [(3, .int (nI 0)), (2, .int (nI 20)), (0, .ref h), (1, .int (nI pt))]) hx hb dX0_nextOfBest_4 rfl hl (by decide) rfl (fun ls hl => ?_)
  exact loop (cnt + 1) 0 20 _ _ _ (Nat.zero_le _) (by omega) rfl hP hD hS (lv_sub hl [2, 3, 1, 0] rfl)
set_option maxHeartbeats 4000000 in
set_option maxRecDepth 100000 in
/-- appendBestFrom(s0) -/
theorem cX0_appendBestFrom_ok (l : Launch) (dC : Nat → ClassId) (dI : Nat → Nat → Nat) (h a1 a2 a3 a4 a5 a6 a7 : Nat) (cI cL cZ : ClassId) (cnt onc : Nat) (fp sp : Nat → Nat) (mo : Nat → Int64) (on : Nat → Bool) (lf : Nat → Int64) (sf : Nat → Int32) (rp : Nat → Nat) (rs : Nat) (rl : Int64) (sz : Nat) (g : tn_good cnt fp sp mo) (s0 : Nat) (hs0 : s0 < 20) (n0 : Nat) (hsn : sf s0 = nI n0) (hrs : rs + 1 + n0 ≤ 21) : Met l yX0_appendBestFrom wsX0_appendBestFrom ({ frames := 2, cells := 0, slots := 0, locals := 46 }) (va_Pc [.ref h, .int (nI s0)] (tn_Pre dC dI (tn_tys cI cL cZ) (tn_ws h a1 a2 a3 a4 a5 a6 a7 cI cL cZ cnt onc fp sp mo on lf sf rp rs rl) sz)) (va_Qv (S := (Nat → Nat) × Nat) (fun u => u = (tn_put (fun q => tn_nxt fp sp mo on (lf, sf) q cnt) (rs + 1) n0 s0 (va_up rp rs s0), rs + 1 + n0)) (fun u t => tn_at dC dI (tn_tys cI cL cZ) (va_A (tn_ws h a1 a2 a3 a4 a5 a6 a7 cI cL cZ cnt onc fp sp mo on lf sf rp rs rl) sz) (tn_ws h a1 a2 a3 a4 a5 a6 a7 cI cL cZ cnt onc fp sp mo on lf sf u.1 u.2 rl) t) (va_A (tn_ws h a1 a2 a3 a4 a5 a6 a7 cI cL cZ cnt onc fp sp mo on lf sf rp rs rl) sz)) 0 0 (va_A (tn_ws h a1 a2 a3 a4 a5 a6 a7 cI cL cZ cnt onc fp sp mo on lf sf rp rs rl) sz) := by
  refine Met.ofW (cc := cX0_appendBestFrom) (maxL := 4) (ret := none) (by decide) rfl ?_
  intro p e s m args below meth c s₁ B hml hv
  obtain ⟨rfl, hsz, hP, hK, hD0⟩ := hv
  have hx := B.exec
  have hb := B.bytes
  have hr := B.returns
  have hts := atoms_spec (ws := wsX0_appendBestFrom) B.pre
  have hown : s.vm.findClass RX0 = some m.cls := findClass_of_methodNamed B.named
  have hlocks := B.notSynchronized
  subst hsz
  have hD := hD0.self (sz := s.heap.size)
  generalize hAe : va_A (tn_ws h a1 a2 a3 a4 a5 a6 a7 cI cL cZ cnt onc fp sp mo on lf sf rp rs rl) s.heap.size = A at hD ⊢
  have hA : ∀ q : Nat, s.heap.size ≤ q → A q := fun q h => by rw [← hAe]; exact Or.inr h
  have hS : va_S A s.heap s.heap [] := va_S.rf
  have hl := lv_entry ([.ref h, .int (nI s0)]) (n := 4) (Nat.le_of_ble_eq_true rfl)
  rw [lg_entry_eq]
  generalize (lg_sl ([.ref h, .int (nI s0)]) ++ List.replicate (4 - (lg_sl ([.ref h, .int (nI s0)])).length) Slot.unset).toArray = ls at hl ⊢
  have hl : lv_has ls 4 [(0, .ref h), (1, .int (nI s0))] := hl
  have kf27 := hts (.fieldLink RX0 27 "TimeNet" "stepsFrom" "[I") (by decide +kernel)
  have hin : ∀ w ∈ u_ws RX0 TX0 11, w ∈ wsX0_appendBestFrom := by decide +kernel
  have hc := g.1
  have loop : ∀ (n : Nat) (lft : Nat) (pq : Nat) (rpc : Nat → Nat) (rsc : Nat) (H : Heap) (locs : List Loc) (ls : Array Slot), lft < n → pq ≤ 20 → rsc + lft = rs + 1 + n0 → tn_put (fun q => tn_nxt fp sp mo on (lf, sf) q cnt) (rs + 1) n0 s0 (va_up rp rs s0) = tn_put (fun q => tn_nxt fp sp mo on (lf, sf) q cnt) rsc lft pq rpc → va_P (dC, dI) vwCl (tn_ws h a1 a2 a3 a4 a5 a6 a7 cI cL cZ cnt onc fp sp mo on lf sf rpc rsc rl) H → va_D A (tn_ws h a1 a2 a3 a4 a5 a6 a7 cI cL cZ cnt onc fp sp mo on lf sf rpc rsc rl) → va_S A s.heap H locs → lv_has ls 4 [(0, .ref h), (1, .int (nI s0)), (2, .int (nI pq)), (3, .int (nI lft))] → W p l e (headSpec wsX0_appendBestFrom ({ frames := 2, cells := 0, slots := 0, locals := 46 })).room s m ([.ref h, .int (nI s0)] : List Value).toArray below meth c H locs 0 0 (MQ below (va_Qv (S := (Nat → Nat) × Nat) (fun u => u = (tn_put (fun q => tn_nxt fp sp mo on (lf, sf) q cnt) (rs + 1) n0 s0 (va_up rp rs s0), rs + 1 + n0)) (fun u t => tn_at dC dI (tn_tys cI cL cZ) A (tn_ws h a1 a2 a3 a4 a5 a6 a7 cI cL cZ cnt onc fp sp mo on lf sf u.1 u.2 rl) t) A) (([.ref h, .int (nI s0)] : List Value).toArray) s 0 0 A) (F0 m 14 ls []) := by
    intro n
    induction n with
    | zero => intro lft pq rpc rsc H locs ls hln hpq hrr hpu _ _ _ _; exact absurd hln (by omega)
    | succ n ih =>
      intro lft pq rpc rsc H locs ls hln hpq hrr hpu hP hD hS hl
      refine lv_iload_n hx hb dX0_appendBestFrom_14 rfl (lv_at hl 3 rfl) ?_
      refine lv_if_le (tgt := 35) hx hb dX0_appendBestFrom_15 (by decide) (fun c_15 => ?_) (fun c_15 => ?_)
      · skip
        have hl0 := tn_pos c_15 (by omega)
        subst hl0
        exact W.vret hx hb hr (fun t ht hW => ⟨⟨(rpc, rsc), rfl, (by rw [hpu, show rsc = rs + 1 + n0 by omega]; rfl), by rw [ht]; exact hP, va_K.moved hW.alike hK, hD⟩, hS.F ht⟩) hS.2.2 dX0_appendBestFrom_35
      · skip
        obtain ⟨lf', rfl⟩ : ∃ x, lft = x + 1 := by
          rcases Nat.eq_zero_or_pos lft with q | q
          · subst q; exact absurd (show nI 0 ≤ 0 by decide) c_15
          · exact ⟨lft - 1, by omega⟩
        refine lv_aload_n hx hb dX0_appendBestFrom_18 rfl (lv_at hl 0 rfl) ?_
        refine lv_iload_n hx hb dX0_appendBestFrom_19 rfl (lv_at hl 2 rfl) ?_
        have hF := tn_freeA hD hS hA
        refine va_calli (va_runV (As := [.int (nI pq)]) (rest := []) ⟨hx, hb, hml, hown, hts⟩ (cX0_nextOfBest_ok l dC dI h a1 a2 a3 a4 a5 a6 a7 cI cL cZ cnt onc fp sp mo on lf sf rpc rsc rl H.size g pq hpq) (cwV 1 hts gX0_appendBestFrom_X0_nextOfBest rfl rfl rfl (by decide +kernel) ⟨Nat.le_of_ble_eq_true rfl, Nat.le_of_ble_eq_true rfl⟩) (tn_preV hK hP hD (ci := 0) rfl 0 rfl) rfl rfl hl.1 rfl (lv_room (Nat.le_of_ble_eq_true rfl)) dX0_appendBestFrom_20 ⟨Nat.le_of_ble_eq_true rfl, Nat.le_of_ble_eq_true rfl⟩) hS (fun q _ h => hF q h) hF (fun r_20 u_20 t H1 locs ht hvm hw_20 hB hz1 hk1 hS => ?_)
        obtain ⟨hP1, -, hD1⟩ := hB
        rw [ht] at hP1
        have hD := hD1.weaken (fun _ q _ hq => hF q.1 hq)
        clear hP hk1 hF hz1 ht hvm hD1
        generalize H1 = H at hP1 hS ⊢
        have hP := hP1
        clear hP1
        have hr_20 : r_20 = nI (tn_nxt fp sp mo on (lf, sf) pq cnt) := hw_20
        subst hr_20
        have hnl := tn_nxt_le fp sp mo on (lf, sf) pq cnt
        refine lv_istore_n (lv' := [(2, .int (nI (tn_nxt fp sp mo on (lf, sf) pq cnt))), (0, .ref h), (1, .int (nI s0)), (3, .int (nI (lf' + 1)))]) hx hb dX0_appendBestFrom_23 rfl hl (by decide) rfl (fun ls hl => ?_)
        refine lv_aload_n hx hb dX0_appendBestFrom_24 rfl (lv_at hl 1 rfl) ?_
        refine lv_iload_n hx hb dX0_appendBestFrom_25 rfl (lv_at hl 0 rfl) ?_
        have hF := tn_freeA hD hS hA
        refine va_callv (va_runV (As := [.int (nI (tn_nxt fp sp mo on (lf, sf) pq cnt))]) (rest := []) ⟨hx, hb, hml, hown, hts⟩ (cX0_append_ok l dC dI h a1 a2 a3 a4 a5 a6 a7 cI cL cZ cnt onc fp sp mo on lf sf rpc rsc rl H.size (by omega) (tn_nxt fp sp mo on (lf, sf) pq cnt)) (cwV 1 hts gX0_appendBestFrom_X0_append rfl rfl rfl (by decide +kernel) ⟨Nat.le_of_ble_eq_true rfl, Nat.le_of_ble_eq_true rfl⟩) (tn_preV hK hP hD (ci := 0) rfl 0 rfl) rfl rfl hl.1 rfl (lv_room (Nat.le_of_ble_eq_true rfl)) dX0_appendBestFrom_26 ⟨Nat.le_of_ble_eq_true rfl, Nat.le_of_ble_eq_true rfl⟩) hS (fun q _ h => hF q h) hF (fun u_26 t H1 locs ht hvm hw_26 hB hz1 hk1 hS => ?_)
        obtain ⟨hP1, -, hD1⟩ := hB
        rw [ht] at hP1
        have hD := hD1.weaken (fun _ q _ hq => hF q.1 hq)
        clear hP hk1 hF hz1 ht hvm hD1
        generalize H1 = H at hP1 hS ⊢
        have hP := hP1
        clear hP1
        refine lv_iinc (v := nI lf') (lv' := [(3, .int (nI lf')), (2, .int (nI (tn_nxt fp sp mo on (lf, sf) pq cnt))), (0, .ref h), (1, .int (nI s0))]) hx hb dX0_appendBestFrom_29 hl (k := 3) rfl (tn_dec lf') (by decide) rfl (fun ls hl => ?_)
        refine lv_goto (tgt := 14) hx hb dX0_appendBestFrom_32 (by decide) ?_
        exact ih lf' (tn_nxt fp sp mo on (lf, sf) pq cnt) (va_up rpc rsc (tn_nxt fp sp mo on (lf, sf) pq cnt)) (rsc + 1) _ _ _ (by omega) hnl (by omega) (by rw [hpu]; rfl) hP hD hS (lv_sub hl [2, 3, 1, 0] rfl)
  refine lv_iload_n hx hb dX0_appendBestFrom_0 rfl (lv_at hl 1 rfl) ?_
  refine lv_istore_n (lv' := [(2, .int (nI s0)), (0, .ref h), (1, .int (nI s0))]) hx hb dX0_appendBestFrom_1 rfl hl (by decide) rfl (fun ls hl => ?_)
  refine lv_aload_n hx hb dX0_appendBestFrom_2 rfl (lv_at hl 1 rfl) ?_
  refine lv_iload_n hx hb dX0_appendBestFrom_3 rfl (lv_at hl 0 rfl) ?_
  have hF := tn_freeA hD hS hA
  refine va_callv (va_runV (As := [.int (nI s0)]) (rest := []) ⟨hx, hb, hml, hown, hts⟩ (cX0_append_ok l dC dI h a1 a2 a3 a4 a5 a6 a7 cI cL cZ cnt onc fp sp mo on lf sf rp rs rl s.heap.size (by omega) s0) (cwV 1 hts gX0_appendBestFrom_X0_append rfl rfl rfl (by decide +kernel) ⟨Nat.le_of_ble_eq_true rfl, Nat.le_of_ble_eq_true rfl⟩) (tn_preV hK hP hD (ci := 0) rfl 0 rfl) rfl rfl hl.1 rfl (lv_room (Nat.le_of_ble_eq_true rfl)) dX0_appendBestFrom_4 ⟨Nat.le_of_ble_eq_true rfl, Nat.le_of_ble_eq_true rfl⟩) hS (fun q _ h => hF q h) hF (fun u_4 t H1 locs ht hvm hw_4 hB hz1 hk1 hS => ?_)
  obtain ⟨hP1, -, hD1⟩ := hB
  rw [ht] at hP1
  have hD := hD1.weaken (fun _ q _ hq => hF q.1 hq)
  clear hP hk1 hF hz1 ht hvm hD1
  generalize H1 = H at hP1 hS ⊢
  have hP := hP1
  clear hP1
  refine lv_aload_n hx hb dX0_appendBestFrom_7 rfl (lv_at hl 1 rfl) ?_
  refine va_get (D := (dC, dI)) (ci := 0) (v := .ref a6) (C := RX0) (T := TX0) (N := 11) hx hb hts hin hown hK hP 0 rfl rfl 7 (by decide) kf27 (fun _ h9 => h9) rfl dX0_appendBestFrom_8 ?_
  refine lv_iload_n hx hb dX0_appendBestFrom_11 rfl (lv_at hl 2 rfl) ?_
  refine tn_iald (i := s0) (v := nI n0) hx hb hK hP 6 0 rfl rfl (by omega) (by decide) hsn dX0_appendBestFrom_12 ?_
  refine lv_istore_n (lv' := [(3, .int (nI n0)), (2, .int (nI s0)), (0, .ref h), (1, .int (nI s0))]) hx hb dX0_appendBestFrom_13 rfl hl (by decide) rfl (fun ls hl => ?_)
  exact loop (n0 + 1) n0 s0 (va_up rp rs s0) (rs + 1) _ _ _ (by omega) (by omega) rfl rfl hP hD hS (lv_sub hl [2, 3, 1, 0] rfl)
