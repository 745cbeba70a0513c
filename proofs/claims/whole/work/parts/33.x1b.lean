set_option maxHeartbeats 4000000 in
set_option maxRecDepth 100000 in
/-- walk(i) -/
theorem cX1_walk_ok (l : Launch) (dC : Nat → ClassId) (dI : Nat → Nat → Nat) (h b1 b2 b3 b4 b5 b6 : Nat) (cI cL cZ : ClassId) (th cnt : Nat) (fp sp : Nat → Nat) (mo : Nat → Int64) (on : Nat → Bool) (rs : Nat) (rw : Nat → Nat) (rl : Int64) (le : Nat → Int64) (bl : Int64) (bs : Int32) (sz : Nat) (g : tn_good cnt fp sp mo) (i : Nat) (hi : i < 20) (tg : Nat) (a : Nat) (n0 : Nat) (hrs : rs = a + 1) (hai : rw a = i) (hn0 : n0 ≤ 19) (hbs : bs = nI n0) (hlv : tm_lv (tn_E cnt fp sp mo on) tg le) (hne : le (20 * n0 + i) ≠ tn_MX) (hbe : tn_best (tn_E cnt fp sp mo on) i tg (le (20 * n0 + i)).toInt n0) (hfit : a + 1 + n0 ≤ 24) : Met l yX1_walk wsX1_walk ({ frames := 1, cells := 0, slots := 0, locals := 25 }) (va_Pc [.ref h, .int (nI i)] (tn_Pre dC dI (tn_tys cI cL cZ) (tm_ws h b1 b2 b3 b4 b5 b6 cI cL cZ th cnt fp sp mo on rs rw rl le bl bs) sz)) (va_Qv (S := (Nat → Nat) × Nat) (fun u => tn_bp (tn_E cnt fp sp mo on) tg n0 i u.1 a ∧ u.2 = a + 1 + n0 ∧ ∀ z, z < a → u.1 z = rw z) (fun u t => tn_at dC dI (tn_tys cI cL cZ) (va_A (tm_ws h b1 b2 b3 b4 b5 b6 cI cL cZ th cnt fp sp mo on rs rw rl le bl bs) sz) (tm_ws h b1 b2 b3 b4 b5 b6 cI cL cZ th cnt fp sp mo on u.2 u.1 rl le bl bs) t) (va_A (tm_ws h b1 b2 b3 b4 b5 b6 cI cL cZ th cnt fp sp mo on rs rw rl le bl bs) sz)) 0 0 (va_A (tm_ws h b1 b2 b3 b4 b5 b6 cI cL cZ th cnt fp sp mo on rs rw rl le bl bs) sz) := by
  refine Met.ofW (cc := cX1_walk) (maxL := 5) (ret := none) (by decide) rfl ?_
  intro p e s m args below meth c s₁ B hml hv
  obtain ⟨rfl, hsz, hP, hK, hD0⟩ := hv
  have hx := B.exec
  have hb := B.bytes
  have hr := B.returns
  have hts := atoms_spec (ws := wsX1_walk) B.pre
  have hown : s.vm.findClass RX1 = some m.cls := findClass_of_methodNamed B.named
  have hlocks := B.notSynchronized
  subst hsz
  have hD := hD0.self (sz := s.heap.size)
  generalize hAe : va_A (tm_ws h b1 b2 b3 b4 b5 b6 cI cL cZ th cnt fp sp mo on rs rw rl le bl bs) s.heap.size = A at hD ⊢
  have hA : ∀ q : Nat, s.heap.size ≤ q → A q := fun q h => by rw [← hAe]; exact Or.inr h
  have hS : va_S A s.heap s.heap [] := va_S.rf
  have hl := lv_entry ([.ref h, .int (nI i)]) (n := 5) (Nat.le_of_ble_eq_true rfl)
  rw [lg_entry_eq]
  generalize (lg_sl ([.ref h, .int (nI i)]) ++ List.replicate (5 - (lg_sl ([.ref h, .int (nI i)])).length) Slot.unset).toArray = ls at hl ⊢
  have hl : lv_has ls 5 [(0, .ref h), (1, .int (nI i))] := hl
  have kf39 := hts (.fieldLink RX1 39 "TimeNetModel" "bestSteps" "I") (by decide +kernel)
  have kc37 := hts (.constantLong RX1 37 (9223372036854775807)) (by decide +kernel)
  have kf27 := hts (.fieldLink RX1 27 "TimeNetModel" "least" "[J") (by decide +kernel)
  have kf24 := hts (.fieldLink RX1 24 "TimeNetModel" "row" "[I") (by decide +kernel)
  have kf50 := hts (.fieldLink RX1 50 "TimeNetModel" "rowSize" "I") (by decide +kernel)
  have hin : ∀ w ∈ u_ws RX1 TX1 12, w ∈ wsX1_walk := by decide +kernel
  have hc := g.1
  subst hrs
  subst hbs
  have loopO : ∀ (n : Nat) (sq : Nat) (v : Nat) (mm : Nat) (rwc : Nat → Nat) (H : Heap) (locs : List Loc) (ls : Array Slot), (sq < n) → (mm + sq = n0) → (v < 20) → (tn_best (tn_E cnt fp sp mo on) v tg (le (20 * sq + v)).toInt sq) → (le (20 * sq + v) ≠ tn_MX) → (tn_bp (tn_E cnt fp sp mo on) tg mm i rwc a) → (rwc (a + mm) = v) → (∀ z, z < a → rwc z = rw z) → va_P (dC, dI) vwCl (tm_ws h b1 b2 b3 b4 b5 b6 cI cL cZ th cnt fp sp mo on (a + 1 + mm) rwc rl le bl (nI n0)) H → va_D A (tm_ws h b1 b2 b3 b4 b5 b6 cI cL cZ th cnt fp sp mo on (a + 1 + mm) rwc rl le bl (nI n0)) → va_S A s.heap H locs → lv_has ls 5 [(0, .ref h), (1, .int (nI i)), (2, .int (nI v)), (3, .int (nI sq))] → W p l e (headSpec wsX1_walk ({ frames := 1, cells := 0, slots := 0, locals := 25 })).room s m ([.ref h, .int (nI i)] : List Value).toArray below meth c H locs 0 0 (MQ below (va_Qv (S := (Nat → Nat) × Nat) (fun u => tn_bp (tn_E cnt fp sp mo on) tg n0 i u.1 a ∧ u.2 = a + 1 + n0 ∧ ∀ z, z < a → u.1 z = rw z) (fun u t => tn_at dC dI (tn_tys cI cL cZ) A (tm_ws h b1 b2 b3 b4 b5 b6 cI cL cZ th cnt fp sp mo on u.2 u.1 rl le bl (nI n0)) t) A) (([.ref h, .int (nI i)] : List Value).toArray) s 0 0 A) (F0 m 7 ls []) := by
    intro n
    induction n with
    | zero => intro sq v mm rwc H locs ls hsn hms hv hbv hnv hbp hend hlow _ _ _ _; exact absurd hsn (by omega)
    | succ n ih_loopO =>
      intro sq v mm rwc H locs ls hsn hms hv hbv hnv hbp hend hlow hP hD hS hl
      refine lv_iload_n hx hb dX1_walk_7 rfl (lv_at hl 3 rfl) ?_
      refine lv_if_le (tgt := 122) hx hb dX1_walk_8 (by decide) (fun c_8 => ?_) (fun c_8 => ?_)
      · skip
        have hs0 := tn_pos c_8 (by omega)
        subst hs0
        have hm0 : mm = n0 := by omega
        subst hm0
        exact W.vret hx hb hr (fun t ht hW => ⟨⟨(rwc, a + 1 + mm), rfl, ⟨hbp, rfl, hlow⟩, by rw [ht]; exact hP, va_K.moved hW.alike hK, hD⟩, hS.F ht⟩) hS.2.2 dX1_walk_122
      · skip
        obtain ⟨sv, rfl⟩ : ∃ x, sq = x + 1 := by
          rcases Nat.eq_zero_or_pos sq with q | q
          · subst q; exact absurd (show nI 0 ≤ 0 by decide) c_8
          · exact ⟨sq - 1, by omega⟩
        obtain ⟨q0, hq0, hnl⟩ := tm_least (tn_E_in g) hbv
        have loopI : ∀ (n : Nat) (w : Nat) (H : Heap) (locs : List Loc) (ls : Array Slot), (w ≤ q0) → (q0 < w + n) → va_P (dC, dI) vwCl (tm_ws h b1 b2 b3 b4 b5 b6 cI cL cZ th cnt fp sp mo on (a + 1 + mm) rwc rl le bl (nI n0)) H → va_D A (tm_ws h b1 b2 b3 b4 b5 b6 cI cL cZ th cnt fp sp mo on (a + 1 + mm) rwc rl le bl (nI n0)) → va_S A s.heap H locs → lv_has ls 5 [(0, .ref h), (1, .int (nI i)), (2, .int (nI v)), (3, .int (nI (sv + 1))), (4, .int (nI w))] → W p l e (headSpec wsX1_walk ({ frames := 1, cells := 0, slots := 0, locals := 25 })).room s m ([.ref h, .int (nI i)] : List Value).toArray below meth c H locs 0 0 (MQ below (va_Qv (S := (Nat → Nat) × Nat) (fun u => tn_bp (tn_E cnt fp sp mo on) tg n0 i u.1 a ∧ u.2 = a + 1 + n0 ∧ ∀ z, z < a → u.1 z = rw z) (fun u t => tn_at dC dI (tn_tys cI cL cZ) A (tm_ws h b1 b2 b3 b4 b5 b6 cI cL cZ th cnt fp sp mo on u.2 u.1 rl le bl (nI n0)) t) A) (([.ref h, .int (nI i)] : List Value).toArray) s 0 0 A) (F0 m 14 ls []) := by
          intro n
          induction n with
          | zero => intro w H locs ls hwq0 hwn _ _ _ _; exact absurd hwn (by omega)
          | succ n ih_loopI =>
            intro w H locs ls hwq0 hwn hP hD hS hl
            have hw20 : w < 20 := by omega
            refine lv_aload_n hx hb dX1_walk_14 rfl (lv_at hl 0 rfl) ?_
            refine lv_iload_n hx hb dX1_walk_15 rfl (lv_at hl 2 rfl) ?_
            refine lv_iload hx hb dX1_walk_16 (lv_at hl 4 rfl) ?_
            have hF := tn_freeA hD hS hA
            refine va_calll (va_runV (As := [.int (nI v), .int (nI w)]) (rest := []) ⟨hx, hb, hml, hown, hts⟩ (cX1_step_ok l dC dI h b1 b2 b3 b4 b5 b6 cI cL cZ th cnt fp sp mo on (a + 1 + mm) rwc rl le bl (nI n0) H.size g v hv w hw20) (cwV 2 hts gX1_walk_X1_step rfl rfl rfl (by decide +kernel) ⟨Nat.le_of_ble_eq_true rfl, Nat.le_of_ble_eq_true rfl⟩) (tn_preV hK hP hD (ci := 1) rfl 0 rfl) rfl rfl hl.1 rfl (lv_room (Nat.le_of_ble_eq_true rfl)) dX1_walk_18 ⟨Nat.le_of_ble_eq_true rfl, Nat.le_of_ble_eq_true rfl⟩) hS (fun q _ h => hF q h) hF (fun r_18 u_18 t H1 locs ht hvm hw_18 hB hz1 hk1 hS => ?_)
            obtain ⟨hP1, -, hD1⟩ := hB
            rw [ht] at hP1
            have hD := hD1.weaken (fun _ q _ hq => hF q.1 hq)
            clear hP hk1 hF hz1 ht hvm hD1
            generalize H1 = H at hP1 hS ⊢
            have hP := hP1
            clear hP1
            refine lv_ldc2 (v := 9223372036854775807) hx hb hown kc37 dX1_walk_21 ?_
            refine tn_lc_eq (x := r_18) (y := 9223372036854775807) (tgt := 86) hx hb dX1_walk_24 dX1_walk_25 (by decide) (fun c_24 => ?_) (fun c_24 => ?_)
            · skip
              have hnn : ¬ tn_nx (tn_E cnt fp sp mo on) tg v w := fun q => ((tm_nx_iff g (by omega) hv hw20 hlv hnv hbv hw_18).mp q).1 c_24
              refine lv_iinc (v := nI (w + 1)) (lv' := [(4, .int (nI (w + 1))), (0, .ref h), (1, .int (nI i)), (2, .int (nI v)), (3, .int (nI (sv + 1)))]) hx hb dX1_walk_86 hl (k := 4) rfl (tn_inc w) (by decide) rfl (fun ls hl => ?_)
              refine lv_goto (tgt := 14) hx hb dX1_walk_89 (by decide) ?_
              exact ih_loopI (w + 1) _ _ _ (by
                have : w ≠ q0 := fun q => hnn (q ▸ hnl.1)
                omega) (by omega) hP hD hS (lv_sub hl [1, 2, 3, 4, 0] rfl)
            · skip
              refine lv_aload_n hx hb dX1_walk_28 rfl (lv_at hl 0 rfl) ?_
              refine va_get (D := (dC, dI)) (ci := 1) (v := .ref b6) (C := RX1) (T := TX1) (N := 12) hx hb hts hin hown hK hP 0 rfl rfl 9 (by decide) kf27 (fun _ h9 => h9) rfl dX1_walk_29 ?_
              refine lv_bipush (v := nI 20) hx hb dX1_walk_32 (by decide) ?_
              refine lv_iload_n hx hb dX1_walk_34 rfl (lv_at hl 3 rfl) ?_
              refine lv_iconst (v := nI 1) hx hb dX1_walk_35 (by decide) ?_
              refine tn_isub2 (a := (sv + 1)) (b := 1) (d := sv) hx hb (by omega) dX1_walk_36 ?_
              refine tn_imul (a := 20) (b := sv) hx hb dX1_walk_37 ?_
              refine lv_iload hx hb dX1_walk_38 (lv_at hl 4 rfl) ?_
              refine tn_iadd (a := (20 * sv)) (b := w) hx hb dX1_walk_40 ?_
              refine tn_lald (i := ((20 * sv) + w)) (v := le ((20 * sv) + w)) hx hb hK hP 6 1 rfl rfl (by omega) (by decide) rfl dX1_walk_41 ?_
              refine lv_ldc2 (v := 9223372036854775807) hx hb hown kc37 dX1_walk_42 ?_
              refine tn_lc_eq (x := (le ((20 * sv) + w))) (y := 9223372036854775807) (tgt := 86) hx hb dX1_walk_45 dX1_walk_46 (by decide) (fun c_45 => ?_) (fun c_45 => ?_)
              · skip
                have hnn : ¬ tn_nx (tn_E cnt fp sp mo on) tg v w := fun q => ((tm_nx_iff g (by omega) hv hw20 hlv hnv hbv hw_18).mp q).2.1 c_45
                refine lv_iinc (v := nI (w + 1)) (lv' := [(4, .int (nI (w + 1))), (0, .ref h), (1, .int (nI i)), (2, .int (nI v)), (3, .int (nI (sv + 1)))]) hx hb dX1_walk_86 hl (k := 4) rfl (tn_inc w) (by decide) rfl (fun ls hl => ?_)
                refine lv_goto (tgt := 14) hx hb dX1_walk_89 (by decide) ?_
                exact ih_loopI (w + 1) _ _ _ (by
                  have : w ≠ q0 := fun q => hnn (q ▸ hnl.1)
                  omega) (by omega) hP hD hS (lv_sub hl [1, 2, 3, 4, 0] rfl)
              · skip
                refine lv_aload_n hx hb dX1_walk_49 rfl (lv_at hl 0 rfl) ?_
                refine lv_iload_n hx hb dX1_walk_50 rfl (lv_at hl 2 rfl) ?_
                refine lv_iload hx hb dX1_walk_51 (lv_at hl 4 rfl) ?_
                have hF := tn_freeA hD hS hA
                refine va_calll (va_runV (As := [.int (nI v), .int (nI w)]) (rest := []) ⟨hx, hb, hml, hown, hts⟩ (cX1_step_ok l dC dI h b1 b2 b3 b4 b5 b6 cI cL cZ th cnt fp sp mo on (a + 1 + mm) rwc rl le bl (nI n0) H.size g v hv w hw20) (cwV 2 hts gX1_walk_X1_step rfl rfl rfl (by decide +kernel) ⟨Nat.le_of_ble_eq_true rfl, Nat.le_of_ble_eq_true rfl⟩) (tn_preV hK hP hD (ci := 1) rfl 0 rfl) rfl rfl hl.1 rfl (lv_room (Nat.le_of_ble_eq_true rfl)) dX1_walk_53 ⟨Nat.le_of_ble_eq_true rfl, Nat.le_of_ble_eq_true rfl⟩) hS (fun q _ h => hF q h) hF (fun r_53 u_53 t H1 locs ht hvm hw_53 hB hz1 hk1 hS => ?_)
                obtain ⟨hP1, -, hD1⟩ := hB
                rw [ht] at hP1
                have hD := hD1.weaken (fun _ q _ hq => hF q.1 hq)
                clear hP hk1 hF hz1 ht hvm hD1
                generalize H1 = H at hP1 hS ⊢
                have hP := hP1
                clear hP1
                refine lv_aload_n hx hb dX1_walk_56 rfl (lv_at hl 0 rfl) ?_
                refine va_get (D := (dC, dI)) (ci := 1) (v := .ref b6) (C := RX1) (T := TX1) (N := 12) hx hb hts hin hown hK hP 0 rfl rfl 9 (by decide) kf27 (fun _ h9 => h9) rfl dX1_walk_57 ?_
                refine lv_bipush (v := nI 20) hx hb dX1_walk_60 (by decide) ?_
                refine lv_iload_n hx hb dX1_walk_62 rfl (lv_at hl 3 rfl) ?_
                refine lv_iconst (v := nI 1) hx hb dX1_walk_63 (by decide) ?_
                refine tn_isub2 (a := (sv + 1)) (b := 1) (d := sv) hx hb (by omega) dX1_walk_64 ?_
                refine tn_imul (a := 20) (b := sv) hx hb dX1_walk_65 ?_
                refine lv_iload hx hb dX1_walk_66 (lv_at hl 4 rfl) ?_
                refine tn_iadd (a := (20 * sv)) (b := w) hx hb dX1_walk_68 ?_
                refine tn_lald (i := ((20 * sv) + w)) (v := le ((20 * sv) + w)) hx hb hK hP 6 1 rfl rfl (by omega) (by decide) rfl dX1_walk_69 ?_
                refine lv_ladd hx hb dX1_walk_70 ?_
                refine lv_aload_n hx hb dX1_walk_71 rfl (lv_at hl 0 rfl) ?_
                refine va_get (D := (dC, dI)) (ci := 1) (v := .ref b6) (C := RX1) (T := TX1) (N := 12) hx hb hts hin hown hK hP 0 rfl rfl 9 (by decide) kf27 (fun _ h9 => h9) rfl dX1_walk_72 ?_
                refine lv_bipush (v := nI 20) hx hb dX1_walk_75 (by decide) ?_
                refine lv_iload_n hx hb dX1_walk_77 rfl (lv_at hl 3 rfl) ?_
                refine tn_imul (a := 20) (b := (sv + 1)) hx hb dX1_walk_78 ?_
                refine lv_iload_n hx hb dX1_walk_79 rfl (lv_at hl 2 rfl) ?_
                refine tn_iadd (a := (20 * (sv + 1))) (b := v) hx hb dX1_walk_80 ?_
                refine tn_lald (i := ((20 * (sv + 1)) + v)) (v := le ((20 * (sv + 1)) + v)) hx hb hK hP 6 1 rfl rfl (by omega) (by decide) rfl dX1_walk_81 ?_
                refine tn_lc_eq (x := (r_53 + (le ((20 * sv) + w)))) (y := (le ((20 * (sv + 1)) + v))) (tgt := 92) hx hb dX1_walk_82 dX1_walk_83 (by decide) (fun c_82 => ?_) (fun c_82 => ?_)
                · skip
                  have e53 := tm_st_eq hw_18 hw_53
                  have hnn : tn_nx (tn_E cnt fp sp mo on) tg v w := (tm_nx_iff g (by omega) hv hw20 hlv hnv hbv hw_53).mpr ⟨e53 ▸ c_24, c_45, c_82⟩
                  have hwq : w = q0 := Nat.le_antisymm hwq0 (hnl.2 w hnn)
                  subst hwq
                  obtain ⟨hn2, hb2⟩ := tm_nx_go (by omega) hw20 hlv hbv hnn
                  refine lv_aload_n hx hb dX1_walk_92 rfl (lv_at hl 0 rfl) ?_
                  refine va_get (D := (dC, dI)) (ci := 1) (v := .ref b5) (C := RX1) (T := TX1) (N := 12) hx hb hts hin hown hK hP 0 rfl rfl 7 (by decide) kf24 (fun _ h9 => h9) rfl dX1_walk_93 ?_
                  refine lv_aload_n hx hb dX1_walk_96 rfl (lv_at hl 0 rfl) ?_
                  refine va_get (D := (dC, dI)) (ci := 1) (v := .int (nI (a + 1 + mm))) (C := RX1) (T := TX1) (N := 12) hx hb hts hin hown hK hP 0 rfl rfl 6 (by decide) kf50 (fun _ h9 => h9) rfl dX1_walk_97 ?_
                  refine lv_iload hx hb dX1_walk_100 (lv_at hl 4 rfl) ?_
                  refine tn_iast (i := (a + 1 + mm)) (f' := (fun zz => nI (va_up rwc (a + 1 + mm) w zz))) hx hb hK hP hD hS 5 0 rfl rfl (by omega) (by decide) (tn_updN rwc (a + 1 + mm) w) dX1_walk_102 (fun H locs hP hD hS => ?_)
                  have hP : va_P (dC, dI) vwCl (tm_ws h b1 b2 b3 b4 b5 b6 cI cL cZ th cnt fp sp mo on (a + 1 + mm) (va_up rwc (a + 1 + mm) w) rl le bl (nI n0)) H := hP
                  have hD : va_D A (tm_ws h b1 b2 b3 b4 b5 b6 cI cL cZ th cnt fp sp mo on (a + 1 + mm) (va_up rwc (a + 1 + mm) w) rl le bl (nI n0)) := hD
                  refine lv_aload_n hx hb dX1_walk_103 rfl (lv_at hl 0 rfl) ?_
                  refine lv_dup hx hb dX1_walk_104 rfl ?_
                  refine va_get (D := (dC, dI)) (ci := 1) (v := .int (nI (a + 1 + mm))) (C := RX1) (T := TX1) (N := 12) hx hb hts hin hown hK hP 0 rfl rfl 6 (by decide) kf50 (fun _ h9 => h9) rfl dX1_walk_105 ?_
                  refine lv_iconst (v := nI 1) hx hb dX1_walk_108 (by decide) ?_
                  refine tn_iadd (a := (a + 1 + mm)) (b := 1) hx hb dX1_walk_109 ?_
                  refine va_put (D := (dC, dI)) (ci := 1) (v := .int (nI ((a + 1 + mm) + 1))) (ty := .int) (C := RX1) (T := TX1) (N := 12) hx hb hts hin tyX1 tyX1_ok nmX1 hown hK hP hD hS 0 rfl rfl 6 (by decide) kf50 (fun _ h9 => h9) rfl (by decide +kernel) rfl rfl (Nat.le_of_ble_eq_true rfl) dX1_walk_110 (fun H locs hP hD hS => ?_)
                  have hP : va_P (dC, dI) vwCl (tm_ws h b1 b2 b3 b4 b5 b6 cI cL cZ th cnt fp sp mo on ((a + 1 + mm) + 1) (va_up rwc (a + 1 + mm) w) rl le bl (nI n0)) H := hP
                  have hD : va_D A (tm_ws h b1 b2 b3 b4 b5 b6 cI cL cZ th cnt fp sp mo on ((a + 1 + mm) + 1) (va_up rwc (a + 1 + mm) w) rl le bl (nI n0)) := hD
                  refine lv_iload hx hb dX1_walk_113 (lv_at hl 4 rfl) ?_
                  refine lv_istore_n (lv' := [(2, .int (nI w)), (0, .ref h), (1, .int (nI i)), (3, .int (nI (sv + 1))), (4, .int (nI w))]) hx hb dX1_walk_115 rfl hl (by decide) rfl (fun ls hl => ?_)
                  refine lv_iinc (v := nI sv) (lv' := [(3, .int (nI sv)), (2, .int (nI w)), (0, .ref h), (1, .int (nI i)), (4, .int (nI w))]) hx hb dX1_walk_116 hl (k := 3) rfl (tn_dec sv) (by decide) rfl (fun ls hl => ?_)
                  refine lv_goto (tgt := 7) hx hb dX1_walk_119 (by decide) ?_
                  exact ih_loopO sv w (mm + 1) (va_up rwc (a + 1 + mm) w) _ _ _ (by omega) (by omega) hw20 hb2 hn2 (tm_bp_s hbp hend hnl) (by simp [va_up, show a + (mm + 1) = a + 1 + mm by omega]) (fun z hz => by simp [va_up, show ¬ z = a + 1 + mm by omega]; exact hlow z hz) hP hD hS (lv_sub hl [2, 3, 1, 0] rfl)
                · skip
                  have hnn : ¬ tn_nx (tn_E cnt fp sp mo on) tg v w := fun q => c_82 (((tm_nx_iff g (by omega) hv hw20 hlv hnv hbv hw_53).mp q).2.2)
                  refine lv_iinc (v := nI (w + 1)) (lv' := [(4, .int (nI (w + 1))), (0, .ref h), (1, .int (nI i)), (2, .int (nI v)), (3, .int (nI (sv + 1)))]) hx hb dX1_walk_86 hl (k := 4) rfl (tn_inc w) (by decide) rfl (fun ls hl => ?_)
                  refine lv_goto (tgt := 14) hx hb dX1_walk_89 (by decide) ?_
                  exact ih_loopI (w + 1) _ _ _ (by
                    have : w ≠ q0 := fun q => hnn (q ▸ hnl.1)
                    omega) (by omega) hP hD hS (lv_sub hl [1, 2, 3, 4, 0] rfl)
        refine lv_iconst (v := nI 0) hx hb dX1_walk_11 (by decide) ?_
        refine lv_istore (lv' := [(4, .int (nI 0)), (0, .ref h), (1, .int (nI i)), (2, .int (nI v)), (3, .int (nI (sv + 1)))]) hx hb dX1_walk_12 hl (by decide) rfl (fun ls hl => ?_)
        exact loopI (q0 + 1) 0 _ _ _ (Nat.zero_le _) (by omega) hP hD hS (lv_sub hl [1, 2, 3, 4, 0] rfl)
  refine lv_iload_n hx hb dX1_walk_0 rfl (lv_at hl 1 rfl) ?_
  refine lv_istore_n (lv' := [(2, .int (nI i)), (0, .ref h), (1, .int (nI i))]) hx hb dX1_walk_1 rfl hl (by decide) rfl (fun ls hl => ?_)
  refine lv_aload_n hx hb dX1_walk_2 rfl (lv_at hl 1 rfl) ?_
  refine va_get (D := (dC, dI)) (ci := 1) (v := .int (nI n0)) (C := RX1) (T := TX1) (N := 12) hx hb hts hin hown hK hP 0 rfl rfl 11 (by decide) kf39 (fun _ h9 => h9) rfl dX1_walk_3 ?_
  refine lv_istore_n (lv' := [(3, .int (nI n0)), (2, .int (nI i)), (0, .ref h), (1, .int (nI i))]) hx hb dX1_walk_6 rfl hl (by decide) rfl (fun ls hl => ?_)
  exact loopO (n0 + 1) n0 i 0 rw _ _ _ (by omega) (by omega) hi hbe hne ⟨hai, fun s hs => absurd hs (by omega)⟩ hai (fun _ _ => rfl) hP hD hS (lv_sub hl [2, 3, 1, 0] rfl)
