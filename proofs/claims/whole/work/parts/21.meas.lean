set_option maxHeartbeats 4000000 in
set_option maxRecDepth 100000 in
/-- improveAll(): a round -/
theorem cX0_improveAll_ok (l : Launch) (dC : Nat → ClassId) (dI : Nat → Nat → Nat) (h a1 a2 a3 a4 a5 a6 a7 : Nat) (cI cL cZ : ClassId) (cnt onc : Nat) (fp sp : Nat → Nat) (mo : Nat → Int64) (on : Nat → Bool) (lf : Nat → Int64) (sf : Nat → Int32) (rp : Nat → Nat) (rs : Nat) (rl : Int64) (sz : Nat) (g : tn_good cnt fp sp mo) : Met l yX0_improveAll wsX0_improveAll ({ frames := 1, cells := 0, slots := 0, locals := 27 }) (va_Pc [.ref h] (tn_Pre dC dI (tn_tys cI cL cZ) (tn_ws h a1 a2 a3 a4 a5 a6 a7 cI cL cZ cnt onc fp sp mo on lf sf rp rs rl) sz)) (va_Qi (S := tn_D) (fun r u => r = tn_b (tn_rnd fp sp mo on (lf, sf) cnt).2 ∧ u = (tn_rnd fp sp mo on (lf, sf) cnt).1) (fun u t => tn_at dC dI (tn_tys cI cL cZ) (va_A (tn_ws h a1 a2 a3 a4 a5 a6 a7 cI cL cZ cnt onc fp sp mo on lf sf rp rs rl) sz) (tn_ws h a1 a2 a3 a4 a5 a6 a7 cI cL cZ cnt onc fp sp mo on u.1 u.2 rp rs rl) t) (va_A (tn_ws h a1 a2 a3 a4 a5 a6 a7 cI cL cZ cnt onc fp sp mo on lf sf rp rs rl) sz)) 0 0 (va_A (tn_ws h a1 a2 a3 a4 a5 a6 a7 cI cL cZ cnt onc fp sp mo on lf sf rp rs rl) sz) := by
  refine Met.ofW (cc := cX0_improveAll) (maxL := 3) (ret := (some .boolean)) (by decide) rfl ?_
  intro p e s m args below meth c s₁ B hml hv
  obtain ⟨rfl, hsz, hP, hK, hD0⟩ := hv
  have hx := B.exec
  have hb := B.bytes
  have hr := B.returns
  have hts := atoms_spec (ws := wsX0_improveAll) B.pre
  have hown : s.vm.findClass RX0 = some m.cls := findClass_of_methodNamed B.named
  have hlocks := B.notSynchronized
  subst hsz
  have hD := hD0.self (sz := s.heap.size)
  generalize hAe : va_A (tn_ws h a1 a2 a3 a4 a5 a6 a7 cI cL cZ cnt onc fp sp mo on lf sf rp rs rl) s.heap.size = A at hD ⊢
  have hA : ∀ q : Nat, s.heap.size ≤ q → A q := fun q h => by rw [← hAe]; exact Or.inr h
  have hS : va_S A s.heap s.heap [] := va_S.rf
  have hl := lv_entry ([.ref h]) (n := 3) (Nat.le_of_ble_eq_true rfl)
  rw [lg_entry_eq]
  generalize (lg_sl ([.ref h]) ++ List.replicate (3 - (lg_sl ([.ref h])).length) Slot.unset).toArray = ls at hl ⊢
  have hl : lv_has ls 3 [(0, .ref h)] := hl
  have kf33 := hts (.fieldLink RX0 33 "TimeNet" "count" "I") (by decide +kernel)
  have kf20 := hts (.fieldLink RX0 20 "TimeNet" "isOn" "[Z") (by decide +kernel)
  have hin : ∀ w ∈ u_ws RX0 TX0 11, w ∈ wsX0_improveAll := by decide +kernel
  have hc := g.1
  have loop : ∀ (n : Nat) (d : tn_D) (ch : Bool) (k : Nat) (H : Heap) (locs : List Loc) (ls : Array Slot), k ≤ cnt → cnt < k + n → tn_rnd fp sp mo on (lf, sf) k = (d, ch) → va_P (dC, dI) vwCl (tn_ws h a1 a2 a3 a4 a5 a6 a7 cI cL cZ cnt onc fp sp mo on d.1 d.2 rp rs rl) H → va_D A (tn_ws h a1 a2 a3 a4 a5 a6 a7 cI cL cZ cnt onc fp sp mo on d.1 d.2 rp rs rl) → va_S A s.heap H locs → lv_has ls 3 [(0, .ref h), (1, .int (tn_b ch)), (2, .int (nI k))] → W p l e (headSpec wsX0_improveAll ({ frames := 1, cells := 0, slots := 0, locals := 27 })).room s m ([.ref h] : List Value).toArray below meth c H locs 0 0 (MQ below (va_Qi (S := tn_D) (fun r u => r = tn_b (tn_rnd fp sp mo on (lf, sf) cnt).2 ∧ u = (tn_rnd fp sp mo on (lf, sf) cnt).1) (fun u t => tn_at dC dI (tn_tys cI cL cZ) A (tn_ws h a1 a2 a3 a4 a5 a6 a7 cI cL cZ cnt onc fp sp mo on u.1 u.2 rp rs rl) t) A) (([.ref h] : List Value).toArray) s 0 0 A) (F0 m 4 ls []) := by
    intro n
    induction n with
    | zero => intro d ch k H locs ls hk1 hk2 hd _ _ _ _; exact absurd hk2 (by omega)
    | succ n ih =>
      intro d ch k H locs ls hk1 hk2 hd hP hD hS hl
      refine lv_iload_n hx hb dX0_improveAll_4 rfl (lv_at hl 2 rfl) ?_
      refine lv_aload_n hx hb dX0_improveAll_5 rfl (lv_at hl 0 rfl) ?_
      refine va_get (D := (dC, dI)) (ci := 0) (v := .int (nI cnt)) (C := RX0) (T := TX0) (N := 11) hx hb hts hin hown hK hP 0 rfl rfl 4 (by decide) kf33 (fun _ h9 => h9) rfl dX0_improveAll_6 ?_
      refine lv_icmp_ge (tgt := 37) hx hb dX0_improveAll_9 (by decide) (fun c_9 => ?_) (fun c_9 => ?_)
      · skip
        have hkc : k = cnt := Nat.le_antisymm hk1 ((nI_leI (by omega) (by omega)).mp c_9)
        subst hkc
        refine lv_iload_n hx hb dX0_improveAll_37 rfl (lv_at hl 1 rfl) ?_
        exact W.zret (v := tn_b ch) hx hb hr (tn_b_nar _) (fun t ht hW => ⟨⟨tn_b ch, d, rfl, ⟨by rw [hd], by rw [hd]⟩, by rw [ht]; exact hP, va_K.moved hW.alike hK, hD⟩, hS.F ht⟩) hS.2.2 dX0_improveAll_38
      · skip
        have hkc : k < cnt := Nat.lt_of_not_le (fun q => c_9 (nI_le q (by omega)))
        refine lv_aload_n hx hb dX0_improveAll_12 rfl (lv_at hl 0 rfl) ?_
        refine va_get (D := (dC, dI)) (ci := 0) (v := .ref a4) (C := RX0) (T := TX0) (N := 11) hx hb hts hin hown hK hP 0 rfl rfl 3 (by decide) kf20 (fun _ h9 => h9) rfl dX0_improveAll_13 ?_
        refine lv_iload_n hx hb dX0_improveAll_16 rfl (lv_at hl 2 rfl) ?_
        refine tn_zald (i := k) (v := tn_b (on k)) hx hb hK hP 4 2 rfl rfl (by omega) (by decide) rfl dX0_improveAll_17 ?_
        refine lv_if_eq (tgt := 31) hx hb dX0_improveAll_18 (by decide) (fun c_18 => ?_) (fun c_18 => ?_)
        · skip
          have ho := tn_b_eq0 c_18
          refine lv_iinc (v := nI (k + 1)) (lv' := [(2, .int (nI (k + 1))), (0, .ref h), (1, .int (tn_b ch))]) hx hb dX0_improveAll_31 hl (k := 2) rfl (tn_inc k) (by decide) rfl (fun ls hl => ?_)
          refine lv_goto (tgt := 4) hx hb dX0_improveAll_34 (by decide) ?_
          exact ih d ch (k + 1) _ _ _ hkc (by omega) (by rw [tn_rnd, hd, if_neg (fun q => by rw [ho] at q; exact absurd q.1 (by decide))]) hP hD hS (lv_sub hl [1, 2, 0] rfl)
        · skip
          have ho := tn_b_ne0 c_18
          refine lv_aload_n hx hb dX0_improveAll_21 rfl (lv_at hl 0 rfl) ?_
          refine lv_iload_n hx hb dX0_improveAll_22 rfl (lv_at hl 2 rfl) ?_
          have hF := tn_freeA hD hS hA
          refine va_calli (va_runV (As := [.int (nI k)]) (rest := []) ⟨hx, hb, hml, hown, hts⟩ (cX0_improveBy_ok l dC dI h a1 a2 a3 a4 a5 a6 a7 cI cL cZ cnt onc fp sp mo on d.1 d.2 rp rs rl H.size g k hkc) (cwV 1 hts gX0_improveAll_X0_improveBy rfl rfl rfl (by decide +kernel) ⟨Nat.le_of_ble_eq_true rfl, Nat.le_of_ble_eq_true rfl⟩) (tn_preV hK hP hD (ci := 0) rfl 0 rfl) rfl rfl hl.1 rfl (lv_room (Nat.le_of_ble_eq_true rfl)) dX0_improveAll_23 ⟨Nat.le_of_ble_eq_true rfl, Nat.le_of_ble_eq_true rfl⟩) hS (fun q _ h => hF q h) hF (fun r_23 u_23 t H1 locs ht hvm hw_23 hB hz1 hk1 hS => ?_)
          obtain ⟨hP1, -, hD1⟩ := hB
          rw [ht] at hP1
          have hD := hD1.weaken (fun _ q _ hq => hF q.1 hq)
          clear hP hk1 hF hz1 ht hvm hD1
          generalize H1 = H at hP1 hS ⊢
          have hP := hP1
          clear hP1
          refine lv_if_eq (tgt := 31) hx hb dX0_improveAll_26 (by decide) (fun c_26 => ?_) (fun c_26 => ?_)
          · skip
            have hw2 : ¬ tn_imp fp sp mo k d ∧ u_23 = d := by
              rcases hw_23 with ⟨_, q, _⟩ | ⟨q1, _, q2⟩
              · exact absurd (q ▸ c_26 : nI 1 = 0) (by decide)
              · exact ⟨q1, q2⟩
            refine lv_iinc (v := nI (k + 1)) (lv' := [(2, .int (nI (k + 1))), (0, .ref h), (1, .int (tn_b ch))]) hx hb dX0_improveAll_31 hl (k := 2) rfl (tn_inc k) (by decide) rfl (fun ls hl => ?_)
            refine lv_goto (tgt := 4) hx hb dX0_improveAll_34 (by decide) ?_
            exact ih u_23 ch (k + 1) _ _ _ hkc (by omega) (by rw [tn_rnd, hd, if_neg (fun q => hw2.1 q.2), hw2.2]) hP hD hS (lv_sub hl [1, 2, 0] rfl)
          · skip
            have hw2 : tn_imp fp sp mo k d ∧ u_23 = tn_stp fp sp mo k d := by
              rcases hw_23 with ⟨q1, _, q2⟩ | ⟨_, q, _⟩
              · exact ⟨q1, q2⟩
              · exact absurd (q : r_23 = 0) c_26
            refine lv_iconst (v := nI 1) hx hb dX0_improveAll_29 (by decide) ?_
            refine lv_istore_n (lv' := [(1, .int (nI 1)), (0, .ref h), (2, .int (nI k))]) hx hb dX0_improveAll_30 rfl hl (by decide) rfl (fun ls hl => ?_)
            refine lv_iinc (v := nI (k + 1)) (lv' := [(2, .int (nI (k + 1))), (1, .int (nI 1)), (0, .ref h)]) hx hb dX0_improveAll_31 hl (k := 2) rfl (tn_inc k) (by decide) rfl (fun ls hl => ?_)
            refine lv_goto (tgt := 4) hx hb dX0_improveAll_34 (by decide) ?_
            exact ih u_23 true (k + 1) _ _ _ hkc (by omega) (by rw [tn_rnd, hd, if_pos ⟨ho, hw2.1⟩, hw2.2]) hP hD hS (lv_sub hl [2, 1, 0] rfl)
  refine lv_iconst (v := nI 0) hx hb dX0_improveAll_0 (by decide) ?_
  refine lv_istore_n (lv' := [(1, .int (nI 0)), (0, .ref h)]) hx hb dX0_improveAll_1 rfl hl (by decide) rfl (fun ls hl => ?_)
  refine lv_iconst (v := nI 0) hx hb dX0_improveAll_2 (by decide) ?_
  refine lv_istore_n (lv' := [(2, .int (nI 0)), (1, .int (nI 0)), (0, .ref h)]) hx hb dX0_improveAll_3 rfl hl (by decide) rfl (fun ls hl => ?_)
  exact loop (cnt + 1) (lf, sf) false 0 _ _ _ (Nat.zero_le _) (by omega) rfl hP hD hS (lv_sub hl [2, 1, 0] rfl)
set_option maxHeartbeats 4000000 in
set_option maxRecDepth 100000 in
/-- measureTo(tg) -/
theorem cX0_measureTo_ok (l : Launch) (dC : Nat → ClassId) (dI : Nat → Nat → Nat) (h a1 a2 a3 a4 a5 a6 a7 : Nat) (cI cL cZ : ClassId) (cnt onc : Nat) (fp sp : Nat → Nat) (mo : Nat → Int64) (on : Nat → Bool) (lf : Nat → Int64) (sf : Nat → Int32) (rp : Nat → Nat) (rs : Nat) (rl : Int64) (sz : Nat) (g : tn_good cnt fp sp mo) (tg : Nat) (htg : tg < 20) : Met l yX0_measureTo wsX0_measureTo ({ frames := 2, cells := 0, slots := 0, locals := 49 }) (va_Pc [.ref h, .int (nI tg)] (tn_Pre dC dI (tn_tys cI cL cZ) (tn_ws h a1 a2 a3 a4 a5 a6 a7 cI cL cZ cnt onc fp sp mo on lf sf rp rs rl) sz)) (va_Qv (S := tn_D) (fun u => u = tn_ms cnt fp sp mo on lf sf tg) (fun u t => tn_at dC dI (tn_tys cI cL cZ) (va_A (tn_ws h a1 a2 a3 a4 a5 a6 a7 cI cL cZ cnt onc fp sp mo on lf sf rp rs rl) sz) (tn_ws h a1 a2 a3 a4 a5 a6 a7 cI cL cZ cnt onc fp sp mo on u.1 u.2 rp rs rl) t) (va_A (tn_ws h a1 a2 a3 a4 a5 a6 a7 cI cL cZ cnt onc fp sp mo on lf sf rp rs rl) sz)) 0 0 (va_A (tn_ws h a1 a2 a3 a4 a5 a6 a7 cI cL cZ cnt onc fp sp mo on lf sf rp rs rl) sz) := by
  refine Met.ofW (cc := cX0_measureTo) (maxL := 4) (ret := none) (by decide) rfl ?_
  intro p e s m args below meth c s₁ B hml hv
  obtain ⟨rfl, hsz, hP, hK, hD0⟩ := hv
  have hx := B.exec
  have hb := B.bytes
  have hr := B.returns
  have hts := atoms_spec (ws := wsX0_measureTo) B.pre
  have hown : s.vm.findClass RX0 = some m.cls := findClass_of_methodNamed B.named
  have hlocks := B.notSynchronized
  subst hsz
  have hD := hD0.self (sz := s.heap.size)
  generalize hAe : va_A (tn_ws h a1 a2 a3 a4 a5 a6 a7 cI cL cZ cnt onc fp sp mo on lf sf rp rs rl) s.heap.size = A at hD ⊢
  have hA : ∀ q : Nat, s.heap.size ≤ q → A q := fun q h => by rw [← hAe]; exact Or.inr h
  have hS : va_S A s.heap s.heap [] := va_S.rf
  have hl := lv_entry ([.ref h, .int (nI tg)]) (n := 4) (Nat.le_of_ble_eq_true rfl)
  rw [lg_entry_eq]
  generalize (lg_sl ([.ref h, .int (nI tg)]) ++ List.replicate (4 - (lg_sl ([.ref h, .int (nI tg)])).length) Slot.unset).toArray = ls at hl ⊢
  have hl : lv_has ls 4 [(0, .ref h), (1, .int (nI tg))] := hl
  have kf24 := hts (.fieldLink RX0 24 "TimeNet" "lengthFrom" "[J") (by decide +kernel)
  have kc75 := hts (.constantLong RX0 75 (9223372036854775807)) (by decide +kernel)
  have kf27 := hts (.fieldLink RX0 27 "TimeNet" "stepsFrom" "[I") (by decide +kernel)
  have hin : ∀ w ∈ u_ws RX0 TX0 11, w ∈ wsX0_measureTo := by decide +kernel
  have hc := g.1
  have loop2 : ∀ (n : Nat) (d : tn_D) (ch : Bool) (rd : Nat) (q : Nat) (H : Heap) (locs : List Loc) (ls : Array Slot), rd + q = 20 → q < n → tn_lop cnt fp sp mo on 19 (tn_d0 lf sf tg) = (if ch = true then tn_lop cnt fp sp mo on q d else d) → va_P (dC, dI) vwCl (tn_ws h a1 a2 a3 a4 a5 a6 a7 cI cL cZ cnt onc fp sp mo on d.1 d.2 rp rs rl) H → va_D A (tn_ws h a1 a2 a3 a4 a5 a6 a7 cI cL cZ cnt onc fp sp mo on d.1 d.2 rp rs rl) → va_S A s.heap H locs → lv_has ls 4 [(0, .ref h), (1, .int (nI tg)), (2, .int (tn_b ch)), (3, .int (nI rd))] → W p l e (headSpec wsX0_measureTo ({ frames := 2, cells := 0, slots := 0, locals := 49 })).room s m ([.ref h, .int (nI tg)] : List Value).toArray below meth c H locs 0 0 (MQ below (va_Qv (S := tn_D) (fun u => u = tn_ms cnt fp sp mo on lf sf tg) (fun u t => tn_at dC dI (tn_tys cI cL cZ) A (tn_ws h a1 a2 a3 a4 a5 a6 a7 cI cL cZ cnt onc fp sp mo on u.1 u.2 rp rs rl) t) A) (([.ref h, .int (nI tg)] : List Value).toArray) s 0 0 A) (F0 m 48 ls []) := by
    intro n
    induction n with
    | zero => intro d ch rd q H locs ls hrq hqn hd _ _ _ _; exact absurd hqn (by omega)
    | succ n ih =>
      intro d ch rd q H locs ls hrq hqn hd hP hD hS hl
      refine lv_iload_n hx hb dX0_measureTo_48 rfl (lv_at hl 3 rfl) ?_
      refine lv_bipush (v := nI 20) hx hb dX0_measureTo_49 (by decide) ?_
      refine lv_icmp_ge (tgt := 69) hx hb dX0_measureTo_51 (by decide) (fun c_51 => ?_) (fun c_51 => ?_)
      · skip
        have hq0 : q = 0 := by
          have := (nI_leI (by omega) (by omega)).mp c_51
          omega
        subst hq0
        exact W.vret hx hb hr (fun t ht hW => ⟨⟨d, rfl, (show d = tn_lop cnt fp sp mo on 19 (tn_d0 lf sf tg) from by rw [hd]; cases ch <;> rfl), by rw [ht]; exact hP, va_K.moved hW.alike hK, hD⟩, hS.F ht⟩) hS.2.2 dX0_measureTo_69
      · skip
        have hrd : rd < 20 := Nat.lt_of_not_le (fun q => c_51 (nI_le q (by omega)))
        refine lv_iload_n hx hb dX0_measureTo_54 rfl (lv_at hl 2 rfl) ?_
        refine lv_if_eq (tgt := 69) hx hb dX0_measureTo_55 (by decide) (fun c_55 => ?_) (fun c_55 => ?_)
        · skip
          have hch := tn_b_eq0 c_55
          exact W.vret hx hb hr (fun t ht hW => ⟨⟨d, rfl, (show d = tn_lop cnt fp sp mo on 19 (tn_d0 lf sf tg) from by rw [hd, hch]; rfl), by rw [ht]; exact hP, va_K.moved hW.alike hK, hD⟩, hS.F ht⟩) hS.2.2 dX0_measureTo_69
        · skip
          have hch := tn_b_ne0 c_55
          obtain ⟨q', rfl⟩ : ∃ q', q = q' + 1 := ⟨q - 1, by omega⟩
          refine lv_aload_n hx hb dX0_measureTo_58 rfl (lv_at hl 0 rfl) ?_
          have hF := tn_freeA hD hS hA
          refine va_calli (va_runV (As := []) (rest := []) ⟨hx, hb, hml, hown, hts⟩ (cX0_improveAll_ok l dC dI h a1 a2 a3 a4 a5 a6 a7 cI cL cZ cnt onc fp sp mo on d.1 d.2 rp rs rl H.size g) (cwV 0 hts gX0_measureTo_X0_improveAll rfl rfl rfl (by decide +kernel) ⟨Nat.le_of_ble_eq_true rfl, Nat.le_of_ble_eq_true rfl⟩) (tn_preV hK hP hD (ci := 0) rfl 0 rfl) rfl rfl hl.1 rfl (lv_room (Nat.le_of_ble_eq_true rfl)) dX0_measureTo_59 ⟨Nat.le_of_ble_eq_true rfl, Nat.le_of_ble_eq_true rfl⟩) hS (fun q _ h => hF q h) hF (fun r_59 u_59 t H1 locs ht hvm hw_59 hB hz1 hk1 hS => ?_)
          obtain ⟨hP1, -, hD1⟩ := hB
          rw [ht] at hP1
          have hD := hD1.weaken (fun _ q _ hq => hF q.1 hq)
          clear hP hk1 hF hz1 ht hvm hD1
          generalize H1 = H at hP1 hS ⊢
          have hP := hP1
          clear hP1
          have hr_59 : r_59 = tn_b (tn_rnd fp sp mo on d cnt).2 := hw_59.1
          subst hr_59
          have hu2_59 : u_59 = (tn_rnd fp sp mo on d cnt).1 := hw_59.2
          refine lv_istore_n (lv' := [(2, .int (tn_b (tn_rnd fp sp mo on d cnt).2)), (0, .ref h), (1, .int (nI tg)), (3, .int (nI rd))]) hx hb dX0_measureTo_62 rfl hl (by decide) rfl (fun ls hl => ?_)
          refine lv_iinc (v := nI (rd + 1)) (lv' := [(3, .int (nI (rd + 1))), (2, .int (tn_b (tn_rnd fp sp mo on d cnt).2)), (0, .ref h), (1, .int (nI tg))]) hx hb dX0_measureTo_63 hl (k := 3) rfl (tn_inc rd) (by decide) rfl (fun ls hl => ?_)
          refine lv_goto (tgt := 48) hx hb dX0_measureTo_66 (by decide) ?_
          exact ih u_59 (tn_rnd fp sp mo on d cnt).2 (rd + 1) q' _ _ _ (by omega) (by omega) (by rw [hd, hch, if_pos rfl, tn_lop, hu2_59]) hP hD hS (lv_sub hl [2, 3, 1, 0] rfl)
  have loop1 : ∀ (n : Nat) (i : Nat) (H : Heap) (locs : List Loc) (ls : Array Slot), i ≤ 20 → 20 < i + n → va_P (dC, dI) vwCl (tn_ws h a1 a2 a3 a4 a5 a6 a7 cI cL cZ cnt onc fp sp mo on (fun p => if p < i then tn_MX else lf p) (fun p => if p < i then -1 else sf p) rp rs rl) H → va_D A (tn_ws h a1 a2 a3 a4 a5 a6 a7 cI cL cZ cnt onc fp sp mo on (fun p => if p < i then tn_MX else lf p) (fun p => if p < i then -1 else sf p) rp rs rl) → va_S A s.heap H locs → lv_has ls 4 [(0, .ref h), (1, .int (nI tg)), (2, .int (nI i))] → W p l e (headSpec wsX0_measureTo ({ frames := 2, cells := 0, slots := 0, locals := 49 })).room s m ([.ref h, .int (nI tg)] : List Value).toArray below meth c H locs 0 0 (MQ below (va_Qv (S := tn_D) (fun u => u = tn_ms cnt fp sp mo on lf sf tg) (fun u t => tn_at dC dI (tn_tys cI cL cZ) A (tn_ws h a1 a2 a3 a4 a5 a6 a7 cI cL cZ cnt onc fp sp mo on u.1 u.2 rp rs rl) t) A) (([.ref h, .int (nI tg)] : List Value).toArray) s 0 0 A) (F0 m 2 ls []) := by
    intro n
    induction n with
    | zero => intro i H locs ls hi1 hi2 _ _ _ _; exact absurd hi2 (by omega)
    | succ n ih =>
      intro i H locs ls hi1 hi2 hP hD hS hl
      refine lv_iload_n hx hb dX0_measureTo_2 rfl (lv_at hl 2 rfl) ?_
      refine lv_bipush (v := nI 20) hx hb dX0_measureTo_3 (by decide) ?_
      refine lv_icmp_ge (tgt := 30) hx hb dX0_measureTo_5 (by decide) (fun c_5 => ?_) (fun c_5 => ?_)
      · skip
        have hi20 : i = 20 := Nat.le_antisymm hi1 ((nI_leI (by omega) (by omega)).mp c_5)
        subst hi20
        refine lv_aload_n hx hb dX0_measureTo_30 rfl (lv_at hl 0 rfl) ?_
        refine va_get (D := (dC, dI)) (ci := 0) (v := .ref a5) (C := RX0) (T := TX0) (N := 11) hx hb hts hin hown hK hP 0 rfl rfl 6 (by decide) kf24 (fun _ h9 => h9) rfl dX0_measureTo_31 ?_
        refine lv_iload_n hx hb dX0_measureTo_34 rfl (lv_at hl 1 rfl) ?_
        refine lv_lconst (v := 0) hx hb dX0_measureTo_35 (by decide) ?_
        refine tn_last (i := tg) (f' := (vp_updL (fun p => if p < 20 then tn_MX else lf p) tg 0)) hx hb hK hP hD hS 5 1 rfl rfl (by omega) (by decide) rfl dX0_measureTo_36 (fun H locs hP hD hS => ?_)
        have hP : va_P (dC, dI) vwCl (tn_ws h a1 a2 a3 a4 a5 a6 a7 cI cL cZ cnt onc fp sp mo on (vp_updL (fun p => if p < 20 then tn_MX else lf p) tg 0) (fun p => if p < 20 then -1 else sf p) rp rs rl) H := hP
        have hD : va_D A (tn_ws h a1 a2 a3 a4 a5 a6 a7 cI cL cZ cnt onc fp sp mo on (vp_updL (fun p => if p < 20 then tn_MX else lf p) tg 0) (fun p => if p < 20 then -1 else sf p) rp rs rl) := hD
        refine lv_aload_n hx hb dX0_measureTo_37 rfl (lv_at hl 0 rfl) ?_
        refine va_get (D := (dC, dI)) (ci := 0) (v := .ref a6) (C := RX0) (T := TX0) (N := 11) hx hb hts hin hown hK hP 0 rfl rfl 7 (by decide) kf27 (fun _ h9 => h9) rfl dX0_measureTo_38 ?_
        refine lv_iload_n hx hb dX0_measureTo_41 rfl (lv_at hl 1 rfl) ?_
        refine lv_iconst (v := nI 0) hx hb dX0_measureTo_42 (by decide) ?_
        refine tn_iast (i := tg) (f' := (upd (fun p => if p < 20 then -1 else sf p) tg (nI 0))) hx hb hK hP hD hS 6 0 rfl rfl (by omega) (by decide) rfl dX0_measureTo_43 (fun H locs hP hD hS => ?_)
        have hP : va_P (dC, dI) vwCl (tn_ws h a1 a2 a3 a4 a5 a6 a7 cI cL cZ cnt onc fp sp mo on (vp_updL (fun p => if p < 20 then tn_MX else lf p) tg 0) (upd (fun p => if p < 20 then -1 else sf p) tg (nI 0)) rp rs rl) H := hP
        have hD : va_D A (tn_ws h a1 a2 a3 a4 a5 a6 a7 cI cL cZ cnt onc fp sp mo on (vp_updL (fun p => if p < 20 then tn_MX else lf p) tg 0) (upd (fun p => if p < 20 then -1 else sf p) tg (nI 0)) rp rs rl) := hD
        refine lv_iconst (v := nI 1) hx hb dX0_measureTo_44 (by decide) ?_
        refine lv_istore_n (lv' := [(2, .int (nI 1)), (0, .ref h), (1, .int (nI tg))]) hx hb dX0_measureTo_45 rfl hl (by decide) rfl (fun ls hl => ?_)
        refine lv_iconst (v := nI 1) hx hb dX0_measureTo_46 (by decide) ?_
        refine lv_istore_n (lv' := [(3, .int (nI 1)), (2, .int (nI 1)), (0, .ref h), (1, .int (nI tg))]) hx hb dX0_measureTo_47 rfl hl (by decide) rfl (fun ls hl => ?_)
        exact loop2 20 (vp_updL (fun p => if p < 20 then tn_MX else lf p) tg 0, upd (fun p => if p < 20 then -1 else sf p) tg (nI 0)) true 1 19 _ _ _ (by omega) (by omega) rfl hP hD hS (lv_sub hl [2, 3, 1, 0] rfl)
      · skip
        have hi20 : i < 20 := Nat.lt_of_not_le (fun q => c_5 (nI_le q (by omega)))
        refine lv_aload_n hx hb dX0_measureTo_8 rfl (lv_at hl 0 rfl) ?_
        refine va_get (D := (dC, dI)) (ci := 0) (v := .ref a5) (C := RX0) (T := TX0) (N := 11) hx hb hts hin hown hK hP 0 rfl rfl 6 (by decide) kf24 (fun _ h9 => h9) rfl dX0_measureTo_9 ?_
        refine lv_iload_n hx hb dX0_measureTo_12 rfl (lv_at hl 2 rfl) ?_
        refine lv_ldc2 (v := 9223372036854775807) hx hb hown kc75 dX0_measureTo_13 ?_
        refine tn_last (i := i) (f' := (fun p => if p < i + 1 then tn_MX else lf p)) hx hb hK hP hD hS 5 1 rfl rfl (by omega) (by decide) (tn_fillL lf tn_MX i) dX0_measureTo_16 (fun H locs hP hD hS => ?_)
        have hP : va_P (dC, dI) vwCl (tn_ws h a1 a2 a3 a4 a5 a6 a7 cI cL cZ cnt onc fp sp mo on (fun p => if p < i + 1 then tn_MX else lf p) (fun p => if p < i then -1 else sf p) rp rs rl) H := hP
        have hD : va_D A (tn_ws h a1 a2 a3 a4 a5 a6 a7 cI cL cZ cnt onc fp sp mo on (fun p => if p < i + 1 then tn_MX else lf p) (fun p => if p < i then -1 else sf p) rp rs rl) := hD
        refine lv_aload_n hx hb dX0_measureTo_17 rfl (lv_at hl 0 rfl) ?_
        refine va_get (D := (dC, dI)) (ci := 0) (v := .ref a6) (C := RX0) (T := TX0) (N := 11) hx hb hts hin hown hK hP 0 rfl rfl 7 (by decide) kf27 (fun _ h9 => h9) rfl dX0_measureTo_18 ?_
        refine lv_iload_n hx hb dX0_measureTo_21 rfl (lv_at hl 2 rfl) ?_
        refine lv_iconst (v := (-1)) hx hb dX0_measureTo_22 (by decide) ?_
        refine tn_iast (i := i) (f' := (fun p => if p < i + 1 then -1 else sf p)) hx hb hK hP hD hS 6 0 rfl rfl (by omega) (by decide) (tn_fillI sf (-1) i) dX0_measureTo_23 (fun H locs hP hD hS => ?_)
        have hP : va_P (dC, dI) vwCl (tn_ws h a1 a2 a3 a4 a5 a6 a7 cI cL cZ cnt onc fp sp mo on (fun p => if p < i + 1 then tn_MX else lf p) (fun p => if p < i + 1 then -1 else sf p) rp rs rl) H := hP
        have hD : va_D A (tn_ws h a1 a2 a3 a4 a5 a6 a7 cI cL cZ cnt onc fp sp mo on (fun p => if p < i + 1 then tn_MX else lf p) (fun p => if p < i + 1 then -1 else sf p) rp rs rl) := hD
        refine lv_iinc (v := nI (i + 1)) (lv' := [(2, .int (nI (i + 1))), (0, .ref h), (1, .int (nI tg))]) hx hb dX0_measureTo_24 hl (k := 2) rfl (tn_inc i) (by decide) rfl (fun ls hl => ?_)
        refine lv_goto (tgt := 2) hx hb dX0_measureTo_27 (by decide) ?_
        exact ih (i + 1) _ _ _ (by omega) (by omega) hP hD hS (lv_sub hl [1, 2, 0] rfl)
  refine lv_iconst (v := nI 0) hx hb dX0_measureTo_0 (by decide) ?_
  refine lv_istore_n (lv' := [(2, .int (nI 0)), (0, .ref h), (1, .int (nI tg))]) hx hb dX0_measureTo_1 rfl hl (by decide) rfl (fun ls hl => ?_)
  have eL : (fun p => if p < 0 then tn_MX else lf p) = lf := by funext p; simp
  have eI : (fun p => if p < 0 then -1 else sf p) = sf := by funext p; simp
  exact loop1 21 0 _ _ _ (by omega) (by omega) (by rw [eL, eI]; exact hP) (by rw [eL, eI]; exact hD) hS (lv_sub hl [1, 2, 0] rfl)
set_option maxHeartbeats 4000000 in
set_option maxRecDepth 100000 in
/-- findPath(x, y) -/
theorem cX0_findPath_ok (l : Launch) (dC : Nat → ClassId) (dI : Nat → Nat → Nat) (h a1 a2 a3 a4 a5 a6 a7 : Nat) (cI cL cZ : ClassId) (cnt onc : Nat) (fp sp : Nat → Nat) (mo : Nat → Int64) (on : Nat → Bool) (lf : Nat → Int64) (sf : Nat → Int32) (rp : Nat → Nat) (rs : Nat) (rl : Int64) (sz : Nat) (g : tn_good cnt fp sp mo) (x y : Int32) : Met l yX0_findPath wsX0_findPath ({ frames := 3, cells := 0, slots := 0, locals := 72 }) (va_Pc [.ref h, .int x, .int y] (tn_Pre dC dI (tn_tys cI cL cZ) (tn_ws h a1 a2 a3 a4 a5 a6 a7 cI cL cZ cnt onc fp sp mo on lf sf rp rs rl) sz)) (va_Qi (S := tn_D) (fun r u => (∃ a b, a < 20 ∧ b < 20 ∧ x = nI a ∧ y = nI b ∧ u = tn_ms cnt fp sp mo on lf sf b ∧ ((r = nI 0 ∧ u.1 a = tn_MX) ∨ (r = nI 1 ∧ u.1 a ≠ tn_MX))) ∨ ((∀ a b, a < 20 → b < 20 → ¬ (x = nI a ∧ y = nI b)) ∧ r = nI 0 ∧ u = (lf, sf))) (fun u t => tn_at dC dI (tn_tys cI cL cZ) (va_A (tn_ws h a1 a2 a3 a4 a5 a6 a7 cI cL cZ cnt onc fp sp mo on lf sf rp rs rl) sz) (tn_ws h a1 a2 a3 a4 a5 a6 a7 cI cL cZ cnt onc fp sp mo on u.1 u.2 rp rs rl) t) (va_A (tn_ws h a1 a2 a3 a4 a5 a6 a7 cI cL cZ cnt onc fp sp mo on lf sf rp rs rl) sz)) 0 0 (va_A (tn_ws h a1 a2 a3 a4 a5 a6 a7 cI cL cZ cnt onc fp sp mo on lf sf rp rs rl) sz) := by
  refine Met.ofW (cc := cX0_findPath) (maxL := 3) (ret := (some .boolean)) (by decide) rfl ?_
  intro p e s m args below meth c s₁ B hml hv
  obtain ⟨rfl, hsz, hP, hK, hD0⟩ := hv
  have hx := B.exec
  have hb := B.bytes
  have hr := B.returns
  have hts := atoms_spec (ws := wsX0_findPath) B.pre
  have hown : s.vm.findClass RX0 = some m.cls := findClass_of_methodNamed B.named
  have hlocks := B.notSynchronized
  subst hsz
  have hD := hD0.self (sz := s.heap.size)
  generalize hAe : va_A (tn_ws h a1 a2 a3 a4 a5 a6 a7 cI cL cZ cnt onc fp sp mo on lf sf rp rs rl) s.heap.size = A at hD ⊢
  have hA : ∀ q : Nat, s.heap.size ≤ q → A q := fun q h => by rw [← hAe]; exact Or.inr h
  have hS : va_S A s.heap s.heap [] := va_S.rf
  have hl := lv_entry ([.ref h, .int x, .int y]) (n := 3) (Nat.le_of_ble_eq_true rfl)
  rw [lg_entry_eq]
  generalize (lg_sl ([.ref h, .int x, .int y]) ++ List.replicate (3 - (lg_sl ([.ref h, .int x, .int y])).length) Slot.unset).toArray = ls at hl ⊢
  have hl : lv_has ls 3 [(0, .ref h), (1, .int x), (2, .int y)] := hl
  have kf24 := hts (.fieldLink RX0 24 "TimeNet" "lengthFrom" "[J") (by decide +kernel)
  have kc75 := hts (.constantLong RX0 75 (9223372036854775807)) (by decide +kernel)
  have hin : ∀ w ∈ u_ws RX0 TX0 11, w ∈ wsX0_findPath := by decide +kernel
  have hc := g.1
  refine lv_iload_n hx hb dX0_findPath_0 rfl (lv_at hl 1 rfl) ?_
  have hF := tn_freeA hD hS hA
  refine va_calli (va_runS (As := [.int x]) (rest := []) ⟨hx, hb, hml, hown, hts⟩ (cX0_isPoint_ok l dC dI h a1 a2 a3 a4 a5 a6 a7 cI cL cZ cnt onc fp sp mo on lf sf rp rs rl s.heap.size x) (va_cwS 1 hts gX0_findPath_X0_isPoint rfl rfl rfl (by decide +kernel) ⟨Nat.le_of_ble_eq_true rfl, Nat.le_of_ble_eq_true rfl⟩) (tn_preS hK hP hD) rfl rfl hl.1 rfl (lv_room (Nat.le_of_ble_eq_true rfl)) dX0_findPath_1 ⟨Nat.le_of_ble_eq_true rfl, Nat.le_of_ble_eq_true rfl⟩) hS (fun q _ h => hF q h) hF (fun r_1 u_1 t H1 locs ht hvm hw_1 hB hz1 hk1 hS => ?_)
  obtain ⟨hP1, -, hD1⟩ := hB
  rw [ht] at hP1
  have hD := hD1.weaken (fun _ q _ hq => hF q.1 hq)
  clear hP hk1 hF hz1 ht hvm hD1
  generalize H1 = H at hP1 hS ⊢
  have hP := hP1
  clear hP1
  refine lv_if_eq (tgt := 14) hx hb dX0_findPath_4 (by decide) (fun c_4 => ?_) (fun c_4 => ?_)
  · skip
    have hn_1 : ∀ j, j < 20 → x ≠ nI j := by
      rcases hw_1 with ⟨q, _⟩ | ⟨_, q⟩
      · exact absurd (q ▸ c_4 : nI 1 = 0) (by decide)
      · exact q
    refine lv_iconst (v := nI 0) hx hb dX0_findPath_14 (by decide) ?_
    exact W.zret (v := nI 0) hx hb hr rfl (fun t ht hW => ⟨⟨nI 0, (lf, sf), rfl, Or.inr ⟨fun a b ha _ q => hn_1 a ha q.1, rfl, rfl⟩, by rw [ht]; exact hP, va_K.moved hW.alike hK, hD⟩, hS.F ht⟩) hS.2.2 dX0_findPath_15
  · skip
    obtain ⟨ja, hja, eja⟩ : ∃ j, j < 20 ∧ x = nI j := by
      rcases hw_1 with ⟨_, q⟩ | ⟨q, _⟩
      · exact q
      · exact absurd (q : r_1 = 0) c_4
    subst eja
    refine lv_iload_n hx hb dX0_findPath_7 rfl (lv_at hl 2 rfl) ?_
    have hF := tn_freeA hD hS hA
    refine va_calli (va_runS (As := [.int y]) (rest := []) ⟨hx, hb, hml, hown, hts⟩ (cX0_isPoint_ok l dC dI h a1 a2 a3 a4 a5 a6 a7 cI cL cZ cnt onc fp sp mo on lf sf rp rs rl H.size y) (va_cwS 1 hts gX0_findPath_X0_isPoint rfl rfl rfl (by decide +kernel) ⟨Nat.le_of_ble_eq_true rfl, Nat.le_of_ble_eq_true rfl⟩) (tn_preS hK hP hD) rfl rfl hl.1 rfl (lv_room (Nat.le_of_ble_eq_true rfl)) dX0_findPath_8 ⟨Nat.le_of_ble_eq_true rfl, Nat.le_of_ble_eq_true rfl⟩) hS (fun q _ h => hF q h) hF (fun r_8 u_8 t H1 locs ht hvm hw_8 hB hz1 hk1 hS => ?_)
    obtain ⟨hP1, -, hD1⟩ := hB
    rw [ht] at hP1
    have hD := hD1.weaken (fun _ q _ hq => hF q.1 hq)
    clear hP hk1 hF hz1 ht hvm hD1
    generalize H1 = H at hP1 hS ⊢
    have hP := hP1
    clear hP1
    refine lv_if_ne (tgt := 16) hx hb dX0_findPath_11 (by decide) (fun c_11 => ?_) (fun c_11 => ?_)
    · skip
      obtain ⟨jb, hjb, ejb⟩ : ∃ j, j < 20 ∧ y = nI j := by
        rcases hw_8 with ⟨_, q⟩ | ⟨q, _⟩
        · exact q
        · exact absurd (q : r_8 = 0) c_11
      subst ejb
      refine lv_aload_n hx hb dX0_findPath_16 rfl (lv_at hl 0 rfl) ?_
      refine lv_iload_n hx hb dX0_findPath_17 rfl (lv_at hl 2 rfl) ?_
      have hF := tn_freeA hD hS hA
      refine va_callv (va_runV (As := [.int (nI jb)]) (rest := []) ⟨hx, hb, hml, hown, hts⟩ (cX0_measureTo_ok l dC dI h a1 a2 a3 a4 a5 a6 a7 cI cL cZ cnt onc fp sp mo on lf sf rp rs rl H.size g jb hjb) (cwV 1 hts gX0_findPath_X0_measureTo rfl rfl rfl (by decide +kernel) ⟨Nat.le_of_ble_eq_true rfl, Nat.le_of_ble_eq_true rfl⟩) (tn_preV hK hP hD (ci := 0) rfl 0 rfl) rfl rfl hl.1 rfl (lv_room (Nat.le_of_ble_eq_true rfl)) dX0_findPath_18 ⟨Nat.le_of_ble_eq_true rfl, Nat.le_of_ble_eq_true rfl⟩) hS (fun q _ h => hF q h) hF (fun u_18 t H1 locs ht hvm hw_18 hB hz1 hk1 hS => ?_)
      obtain ⟨hP1, -, hD1⟩ := hB
      rw [ht] at hP1
      have hD := hD1.weaken (fun _ q _ hq => hF q.1 hq)
      clear hP hk1 hF hz1 ht hvm hD1
      generalize H1 = H at hP1 hS ⊢
      have hP := hP1
      clear hP1
      refine lv_aload_n hx hb dX0_findPath_21 rfl (lv_at hl 0 rfl) ?_
      refine va_get (D := (dC, dI)) (ci := 0) (v := .ref a5) (C := RX0) (T := TX0) (N := 11) hx hb hts hin hown hK hP 0 rfl rfl 6 (by decide) kf24 (fun _ h9 => h9) rfl dX0_findPath_22 ?_
      refine lv_iload_n hx hb dX0_findPath_25 rfl (lv_at hl 1 rfl) ?_
      refine tn_lald (i := ja) (v := u_18.1 ja) hx hb hK hP 5 1 rfl rfl (by omega) (by decide) rfl dX0_findPath_26 ?_
      refine lv_ldc2 (v := 9223372036854775807) hx hb hown kc75 dX0_findPath_27 ?_
      refine tn_lc_eq (x := (u_18.1 ja)) (y := 9223372036854775807) (tgt := 38) hx hb dX0_findPath_30 dX0_findPath_31 (by decide) (fun c_30 => ?_) (fun c_30 => ?_)
      · skip
        refine lv_iconst (v := nI 0) hx hb dX0_findPath_38 (by decide) ?_
        exact W.zret (v := nI 0) hx hb hr rfl (fun t ht hW => ⟨⟨nI 0, (u_18.1, u_18.2), rfl, Or.inl ⟨ja, jb, hja, hjb, rfl, rfl, hw_18, Or.inl ⟨rfl, c_30⟩⟩, by rw [ht]; exact hP, va_K.moved hW.alike hK, hD⟩, hS.F ht⟩) hS.2.2 dX0_findPath_39
      · skip
        refine lv_iconst (v := nI 1) hx hb dX0_findPath_34 (by decide) ?_
        refine lv_goto (tgt := 39) hx hb dX0_findPath_35 (by decide) ?_
        exact W.zret (v := nI 1) hx hb hr rfl (fun t ht hW => ⟨⟨nI 1, (u_18.1, u_18.2), rfl, Or.inl ⟨ja, jb, hja, hjb, rfl, rfl, hw_18, Or.inr ⟨rfl, c_30⟩⟩, by rw [ht]; exact hP, va_K.moved hW.alike hK, hD⟩, hS.F ht⟩) hS.2.2 dX0_findPath_39
    · skip
      have hn_8 : ∀ j, j < 20 → y ≠ nI j := by
        rcases hw_8 with ⟨q, _⟩ | ⟨_, q⟩
        · exact absurd (q ▸ c_11 : nI 1 = 0) (by decide)
        · exact q
      refine lv_iconst (v := nI 0) hx hb dX0_findPath_14 (by decide) ?_
      exact W.zret (v := nI 0) hx hb hr rfl (fun t ht hW => ⟨⟨nI 0, (lf, sf), rfl, Or.inr ⟨fun a b _ hb q => hn_8 b hb q.2, rfl, rfl⟩, by rw [ht]; exact hP, va_K.moved hW.alike hK, hD⟩, hS.F ht⟩) hS.2.2 dX0_findPath_15
