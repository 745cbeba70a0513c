set_option maxHeartbeats 4000000 in
set_option maxRecDepth 100000 in
/-- isConstraint(x, y, cv) -/
theorem cX0_isConstraint_ok (l : Launch) (dC : Nat → ClassId) (dI : Nat → Nat → Nat) (h a1 a2 a3 a4 a5 a6 a7 : Nat) (cI cL cZ : ClassId) (cnt onc : Nat) (fp sp : Nat → Nat) (mo : Nat → Int64) (on : Nat → Bool) (lf : Nat → Int64) (sf : Nat → Int32) (rp : Nat → Nat) (rs : Nat) (rl : Int64) (sz : Nat) (x y : Int32) (cv : Int64) : Met l yX0_isConstraint wsX0_isConstraint ({ frames := 1, cells := 0, slots := 0, locals := 20 }) (va_Pc [.int x, .int y, .long cv] (tn_Pre dC dI (tn_tys cI cL cZ) (tn_ws h a1 a2 a3 a4 a5 a6 a7 cI cL cZ cnt onc fp sp mo on lf sf rp rs rl) sz)) (va_Qi (S := Unit) (fun r _ => (r = nI 1 ∧ ∃ a b, a < 20 ∧ b < 20 ∧ a ≠ b ∧ x = nI a ∧ y = nI b ∧ -1000000000000 ≤ cv.toInt ∧ cv.toInt ≤ 1000000000000) ∨ (r = nI 0 ∧ ¬ ∃ a b, a < 20 ∧ b < 20 ∧ a ≠ b ∧ x = nI a ∧ y = nI b ∧ -1000000000000 ≤ cv.toInt ∧ cv.toInt ≤ 1000000000000)) (fun u t => tn_at dC dI (tn_tys cI cL cZ) (va_A (tn_ws h a1 a2 a3 a4 a5 a6 a7 cI cL cZ cnt onc fp sp mo on lf sf rp rs rl) sz) (tn_ws h a1 a2 a3 a4 a5 a6 a7 cI cL cZ cnt onc fp sp mo on lf sf rp rs rl) t) (va_A (tn_ws h a1 a2 a3 a4 a5 a6 a7 cI cL cZ cnt onc fp sp mo on lf sf rp rs rl) sz)) 0 0 (va_A (tn_ws h a1 a2 a3 a4 a5 a6 a7 cI cL cZ cnt onc fp sp mo on lf sf rp rs rl) sz) := by
  refine Met.ofW (cc := cX0_isConstraint) (maxL := 4) (ret := (some .boolean)) (by decide) rfl ?_
  intro p e s m args below meth c s₁ B hml hv
  obtain ⟨rfl, hsz, hP, hK, hD0⟩ := hv
  have hx := B.exec
  have hb := B.bytes
  have hr := B.returns
  have hts := atoms_spec (ws := wsX0_isConstraint) B.pre
  have hown : s.vm.findClass RX0 = some m.cls := findClass_of_methodNamed B.named
  have hlocks := B.notSynchronized
  subst hsz
  have hD := hD0.self (sz := s.heap.size)
  generalize hAe : va_A (tn_ws h a1 a2 a3 a4 a5 a6 a7 cI cL cZ cnt onc fp sp mo on lf sf rp rs rl) s.heap.size = A at hD ⊢
  have hA : ∀ q : Nat, s.heap.size ≤ q → A q := fun q h => by rw [← hAe]; exact Or.inr h
  have hS : va_S A s.heap s.heap [] := va_S.rf
  have hl := lv_entry ([.int x, .int y, .long cv]) (n := 4) (Nat.le_of_ble_eq_true rfl)
  rw [lg_entry_eq]
  generalize (lg_sl ([.int x, .int y, .long cv]) ++ List.replicate (4 - (lg_sl ([.int x, .int y, .long cv])).length) Slot.unset).toArray = ls at hl ⊢
  have hl : lv_has ls 4 [(0, .int x), (1, .int y), (2, .long cv)] := hl
  have kc81 := hts (.constantLong RX0 81 (-1000000000000)) (by decide +kernel)
  have kc83 := hts (.constantLong RX0 83 (1000000000000)) (by decide +kernel)
  refine lv_iload_n hx hb dX0_isConstraint_0 rfl (lv_at hl 0 rfl) ?_
  have hF := tn_freeA hD hS hA
  refine va_calli (va_runS (As := [.int x]) (rest := []) ⟨hx, hb, hml, hown, hts⟩ (cX0_isPoint_ok l dC dI h a1 a2 a3 a4 a5 a6 a7 cI cL cZ cnt onc fp sp mo on lf sf rp rs rl s.heap.size x) (va_cwS 1 hts gX0_isConstraint_X0_isPoint rfl rfl rfl (by decide +kernel) ⟨Nat.le_of_ble_eq_true rfl, Nat.le_of_ble_eq_true rfl⟩) (tn_preS hK hP hD) rfl rfl hl.1 rfl (lv_room (Nat.le_of_ble_eq_true rfl)) dX0_isConstraint_1 ⟨Nat.le_of_ble_eq_true rfl, Nat.le_of_ble_eq_true rfl⟩) hS (fun q _ h => hF q h) hF (fun r_1 u_1 t H1 locs ht hvm hw_1 hB hz1 hk1 hS => ?_)
  obtain ⟨hP1, -, hD1⟩ := hB
  rw [ht] at hP1
  have hD := hD1.weaken (fun _ q _ hq => hF q.1 hq)
  clear hP hk1 hF hz1 ht hvm hD1
  generalize H1 = H at hP1 hS ⊢
  have hP := hP1
  clear hP1
  refine lv_if_eq (tgt := 39) hx hb dX0_isConstraint_4 (by decide) (fun c_4 => ?_) (fun c_4 => ?_)
  · skip
    have hn_1 : ∀ j, j < 20 → x ≠ nI j := by
      rcases hw_1 with ⟨q, _⟩ | ⟨_, q⟩
      · exact absurd (q ▸ c_4 : nI 1 = 0) (by decide)
      · exact q
    refine lv_iconst (v := nI 0) hx hb dX0_isConstraint_39 (by decide) ?_
    exact W.zret (v := nI 0) hx hb hr rfl (fun t ht hW => ⟨⟨nI 0, (), rfl, Or.inr ⟨rfl, fun ⟨a, b, h1, h2, h3, h4, h5, h6⟩ => hn_1 a h1 h4⟩, by rw [ht]; exact hP, va_K.moved hW.alike hK, hD⟩, hS.F ht⟩) hS.2.2 dX0_isConstraint_40
  · skip
    obtain ⟨ja, hja, eja⟩ : ∃ j, j < 20 ∧ x = nI j := by
      rcases hw_1 with ⟨_, q⟩ | ⟨q, _⟩
      · exact q
      · exact absurd (q : r_1 = 0) c_4
    subst eja
    refine lv_iload_n hx hb dX0_isConstraint_7 rfl (lv_at hl 1 rfl) ?_
    have hF := tn_freeA hD hS hA
    refine va_calli (va_runS (As := [.int y]) (rest := []) ⟨hx, hb, hml, hown, hts⟩ (cX0_isPoint_ok l dC dI h a1 a2 a3 a4 a5 a6 a7 cI cL cZ cnt onc fp sp mo on lf sf rp rs rl H.size y) (va_cwS 1 hts gX0_isConstraint_X0_isPoint rfl rfl rfl (by decide +kernel) ⟨Nat.le_of_ble_eq_true rfl, Nat.le_of_ble_eq_true rfl⟩) (tn_preS hK hP hD) rfl rfl hl.1 rfl (lv_room (Nat.le_of_ble_eq_true rfl)) dX0_isConstraint_8 ⟨Nat.le_of_ble_eq_true rfl, Nat.le_of_ble_eq_true rfl⟩) hS (fun q _ h => hF q h) hF (fun r_8 u_8 t H1 locs ht hvm hw_8 hB hz1 hk1 hS => ?_)
    obtain ⟨hP1, -, hD1⟩ := hB
    rw [ht] at hP1
    have hD := hD1.weaken (fun _ q _ hq => hF q.1 hq)
    clear hP hk1 hF hz1 ht hvm hD1
    generalize H1 = H at hP1 hS ⊢
    have hP := hP1
    clear hP1
    refine lv_if_eq (tgt := 39) hx hb dX0_isConstraint_11 (by decide) (fun c_11 => ?_) (fun c_11 => ?_)
    · skip
      have hn_8 : ∀ j, j < 20 → y ≠ nI j := by
        rcases hw_8 with ⟨q, _⟩ | ⟨_, q⟩
        · exact absurd (q ▸ c_11 : nI 1 = 0) (by decide)
        · exact q
      refine lv_iconst (v := nI 0) hx hb dX0_isConstraint_39 (by decide) ?_
      exact W.zret (v := nI 0) hx hb hr rfl (fun t ht hW => ⟨⟨nI 0, (), rfl, Or.inr ⟨rfl, fun ⟨a, b, h1, h2, h3, h4, h5, h6⟩ => hn_8 b h2 h5⟩, by rw [ht]; exact hP, va_K.moved hW.alike hK, hD⟩, hS.F ht⟩) hS.2.2 dX0_isConstraint_40
    · skip
      obtain ⟨jb, hjb, ejb⟩ : ∃ j, j < 20 ∧ y = nI j := by
        rcases hw_8 with ⟨_, q⟩ | ⟨q, _⟩
        · exact q
        · exact absurd (q : r_8 = 0) c_11
      subst ejb
      refine lv_iload_n hx hb dX0_isConstraint_14 rfl (lv_at hl 0 rfl) ?_
      refine lv_iload_n hx hb dX0_isConstraint_15 rfl (lv_at hl 1 rfl) ?_
      refine lv_icmp_eq (tgt := 39) hx hb dX0_isConstraint_16 (by decide) (fun c_16 => ?_) (fun c_16 => ?_)
      · skip
        refine lv_iconst (v := nI 0) hx hb dX0_isConstraint_39 (by decide) ?_
        exact W.zret (v := nI 0) hx hb hr rfl (fun t ht hW => ⟨⟨nI 0, (), rfl, Or.inr ⟨rfl, fun ⟨a, b, h1, h2, h3, h4, h5, h6⟩ => h3 ((nI_eq (by omega) (by omega)).mp (h4.symm.trans (c_16.trans h5)))⟩, by rw [ht]; exact hP, va_K.moved hW.alike hK, hD⟩, hS.F ht⟩) hS.2.2 dX0_isConstraint_40
      · skip
        have hne : ja ≠ jb := fun q => c_16 (by rw [q])
        refine lv_lload_n hx hb dX0_isConstraint_19 rfl (lv_at hl 2 rfl) ?_
        refine lv_ldc2 (v := (-1000000000000)) hx hb hown kc81 dX0_isConstraint_20 ?_
        refine tn_lc_lt (x := cv) (y := (-1000000000000)) (tgt := 39) hx hb dX0_isConstraint_23 dX0_isConstraint_24 (by decide) (fun c_23 => ?_) (fun c_23 => ?_)
        · skip
          refine lv_iconst (v := nI 0) hx hb dX0_isConstraint_39 (by decide) ?_
          exact W.zret (v := nI 0) hx hb hr rfl (fun t ht hW => ⟨⟨nI 0, (), rfl, Or.inr ⟨rfl, fun ⟨a, b, h1, h2, h3, h4, h5, h6, h7⟩ => tn_lim_lo c_23 h6⟩, by rw [ht]; exact hP, va_K.moved hW.alike hK, hD⟩, hS.F ht⟩) hS.2.2 dX0_isConstraint_40
        · skip
          refine lv_lload_n hx hb dX0_isConstraint_27 rfl (lv_at hl 2 rfl) ?_
          refine lv_ldc2 (v := 1000000000000) hx hb hown kc83 dX0_isConstraint_28 ?_
          refine tn_lc_gt (x := cv) (y := 1000000000000) (tgt := 39) hx hb dX0_isConstraint_31 dX0_isConstraint_32 (by decide) (fun c_31 => ?_) (fun c_31 => ?_)
          · skip
            refine lv_iconst (v := nI 0) hx hb dX0_isConstraint_39 (by decide) ?_
            exact W.zret (v := nI 0) hx hb hr rfl (fun t ht hW => ⟨⟨nI 0, (), rfl, Or.inr ⟨rfl, fun ⟨a, b, h1, h2, h3, h4, h5, h6, h7⟩ => tn_lim_hi c_31 h7⟩, by rw [ht]; exact hP, va_K.moved hW.alike hK, hD⟩, hS.F ht⟩) hS.2.2 dX0_isConstraint_40
          · skip
            refine lv_iconst (v := nI 1) hx hb dX0_isConstraint_35 (by decide) ?_
            refine lv_goto (tgt := 40) hx hb dX0_isConstraint_36 (by decide) ?_
            exact W.zret (v := nI 1) hx hb hr rfl (fun t ht hW => ⟨⟨nI 1, (), rfl, Or.inl ⟨rfl, ja, jb, hja, hjb, hne, rfl, rfl, (tn_lim c_23 c_31).1, (tn_lim c_23 c_31).2⟩, by rw [ht]; exact hP, va_K.moved hW.alike hK, hD⟩, hS.F ht⟩) hS.2.2 dX0_isConstraint_40
set_option maxHeartbeats 4000000 in
set_option maxRecDepth 100000 in
/-- refuse(i, j, cv) -/
theorem cX0_refuse_ok (l : Launch) (dC : Nat → ClassId) (dI : Nat → Nat → Nat) (h a1 a2 a3 a4 a5 a6 a7 : Nat) (cI cL cZ : ClassId) (cnt onc : Nat) (fp sp : Nat → Nat) (mo : Nat → Int64) (on : Nat → Bool) (lf : Nat → Int64) (sf : Nat → Int32) (rp : Nat → Nat) (rs : Nat) (rl : Int64) (sz : Nat) (g : tn_good cnt fp sp mo) (ok : tn_ok (tn_E cnt fp sp mo on)) (i : Nat) (hi : i < 20) (j : Nat) (hj : j < 20) (cv : Int64) (hc1 : -1000000000000 ≤ cv.toInt) (hc2 : cv.toInt ≤ 1000000000000) : Met l yX0_refuse wsX0_refuse ({ frames := 4, cells := 0, slots := 0, locals := 94 }) (va_Pc [.ref h, .int (nI i), .int (nI j), .long cv] (tn_Pre dC dI (tn_tys cI cL cZ) (tn_ws h a1 a2 a3 a4 a5 a6 a7 cI cL cZ cnt onc fp sp mo on lf sf rp rs rl) sz)) (va_Qi (S := tn_D × (Nat → Nat) × Nat × Int64) (fun r u => sp_ref (tn_E cnt fp sp mo on) i j cv.toInt r rp rs rl u.2.1 u.2.2.1 u.2.2.2) (fun u t => tn_at dC dI (tn_tys cI cL cZ) (va_A (tn_ws h a1 a2 a3 a4 a5 a6 a7 cI cL cZ cnt onc fp sp mo on lf sf rp rs rl) sz) (tn_ws h a1 a2 a3 a4 a5 a6 a7 cI cL cZ cnt onc fp sp mo on u.1.1 u.1.2 u.2.1 u.2.2.1 u.2.2.2) t) (va_A (tn_ws h a1 a2 a3 a4 a5 a6 a7 cI cL cZ cnt onc fp sp mo on lf sf rp rs rl) sz)) 0 0 (va_A (tn_ws h a1 a2 a3 a4 a5 a6 a7 cI cL cZ cnt onc fp sp mo on lf sf rp rs rl) sz) := by
  refine Met.ofW (cc := cX0_refuse) (maxL := 5) (ret := (some .boolean)) (by decide) rfl ?_
  intro p e s m args below meth c s₁ B hml hv
  obtain ⟨rfl, hsz, hP, hK, hD0⟩ := hv
  have hx := B.exec
  have hb := B.bytes
  have hr := B.returns
  have hts := atoms_spec (ws := wsX0_refuse) B.pre
  have hown : s.vm.findClass RX0 = some m.cls := findClass_of_methodNamed B.named
  have hlocks := B.notSynchronized
  subst hsz
  have hD := hD0.self (sz := s.heap.size)
  generalize hAe : va_A (tn_ws h a1 a2 a3 a4 a5 a6 a7 cI cL cZ cnt onc fp sp mo on lf sf rp rs rl) s.heap.size = A at hD ⊢
  have hA : ∀ q : Nat, s.heap.size ≤ q → A q := fun q h => by rw [← hAe]; exact Or.inr h
  have hS : va_S A s.heap s.heap [] := va_S.rf
  have hl := lv_entry ([.ref h, .int (nI i), .int (nI j), .long cv]) (n := 5) (Nat.le_of_ble_eq_true rfl)
  rw [lg_entry_eq]
  generalize (lg_sl ([.ref h, .int (nI i), .int (nI j), .long cv]) ++ List.replicate (5 - (lg_sl ([.ref h, .int (nI i), .int (nI j), .long cv])).length) Slot.unset).toArray = ls at hl ⊢
  have hl : lv_has ls 5 [(0, .ref h), (1, .int (nI i)), (2, .int (nI j)), (3, .long cv)] := hl
  have kf24 := hts (.fieldLink RX0 24 "TimeNet" "lengthFrom" "[J") (by decide +kernel)
  have kf65 := hts (.fieldLink RX0 65 "TimeNet" "rowSize" "I") (by decide +kernel)
  have kf71 := hts (.fieldLink RX0 71 "TimeNet" "rowLength" "J") (by decide +kernel)
  have hin : ∀ w ∈ u_ws RX0 TX0 11, w ∈ wsX0_refuse := by decide +kernel
  have hc := g.1
  refine lv_aload_n hx hb dX0_refuse_0 rfl (lv_at hl 0 rfl) ?_
  refine lv_iload_n hx hb dX0_refuse_1 rfl (lv_at hl 2 rfl) ?_
  refine lv_iload_n hx hb dX0_refuse_2 rfl (lv_at hl 1 rfl) ?_
  have hF := tn_freeA hD hS hA
  refine va_calli (va_runV (As := [.int (nI j), .int (nI i)]) (rest := []) ⟨hx, hb, hml, hown, hts⟩ (cX0_findPath_ok l dC dI h a1 a2 a3 a4 a5 a6 a7 cI cL cZ cnt onc fp sp mo on lf sf rp rs rl s.heap.size g (nI j) (nI i)) (cwV 2 hts gX0_refuse_X0_findPath rfl rfl rfl (by decide +kernel) ⟨Nat.le_of_ble_eq_true rfl, Nat.le_of_ble_eq_true rfl⟩) (tn_preV hK hP hD (ci := 0) rfl 0 rfl) rfl rfl hl.1 rfl (lv_room (Nat.le_of_ble_eq_true rfl)) dX0_refuse_3 ⟨Nat.le_of_ble_eq_true rfl, Nat.le_of_ble_eq_true rfl⟩) hS (fun q _ h => hF q h) hF (fun r_3 u_3 t H1 locs ht hvm hw_3 hB hz1 hk1 hS => ?_)
  obtain ⟨hP1, -, hD1⟩ := hB
  rw [ht] at hP1
  have hD := hD1.weaken (fun _ q _ hq => hF q.1 hq)
  clear hP hk1 hF hz1 ht hvm hD1
  generalize H1 = H at hP1 hS ⊢
  have hP := hP1
  clear hP1
  have hm_3 := tn_fpN g ok hj hi hw_3
  refine lv_if_eq (tgt := 22) hx hb dX0_refuse_6 (by decide) (fun c_6 => ?_) (fun c_6 => ?_)
  · skip
    have hz : u_3.1 j = tn_MX := by
      rcases hm_3.2 with ⟨_, q⟩ | ⟨q, _⟩
      · exact q
      · exact absurd (q ▸ c_6 : nI 1 = 0) (by decide)
    refine lv_iconst (v := nI 0) hx hb dX0_refuse_22 (by decide) ?_
    exact W.zret (v := nI 0) hx hb hr rfl (fun t ht hW => ⟨⟨nI 0, ((u_3.1, u_3.2), rp, rs, rl), rfl, Or.inr ⟨tn_ref_no g hj hc1 hc2 hm_3.1 (Or.inl hz), rfl, rfl, rfl, rfl⟩, by rw [ht]; exact hP, va_K.moved hW.alike hK, hD⟩, hS.F ht⟩) hS.2.2 dX0_refuse_23
  · skip
    have hz : u_3.1 j ≠ tn_MX := by
      rcases hm_3.2 with ⟨q, _⟩ | ⟨_, q⟩
      · exact absurd (q : r_3 = 0) c_6
      · exact q
    refine lv_aload_n hx hb dX0_refuse_9 rfl (lv_at hl 0 rfl) ?_
    refine va_get (D := (dC, dI)) (ci := 0) (v := .ref a5) (C := RX0) (T := TX0) (N := 11) hx hb hts hin hown hK hP 0 rfl rfl 6 (by decide) kf24 (fun _ h9 => h9) rfl dX0_refuse_10 ?_
    refine lv_iload_n hx hb dX0_refuse_13 rfl (lv_at hl 2 rfl) ?_
    refine tn_lald (i := j) (v := u_3.1 j) hx hb hK hP 5 1 rfl rfl (by omega) (by decide) rfl dX0_refuse_14 ?_
    refine lv_lload_n hx hb dX0_refuse_15 rfl (lv_at hl 3 rfl) ?_
    refine lv_ladd hx hb dX0_refuse_16 ?_
    refine lv_lconst (v := 0) hx hb dX0_refuse_17 (by decide) ?_
    refine tn_lc_lt (x := ((u_3.1 j) + cv)) (y := 0) (tgt := 24) hx hb dX0_refuse_18 dX0_refuse_19 (by decide) (fun c_18 => ?_) (fun c_18 => ?_)
    · skip
      obtain ⟨n0, hn0, hsn, hbe⟩ := tn_mok_f hm_3.1 hj hz
      refine lv_aload_n hx hb dX0_refuse_24 rfl (lv_at hl 0 rfl) ?_
      refine lv_iconst (v := nI 0) hx hb dX0_refuse_25 (by decide) ?_
      refine va_put (D := (dC, dI)) (ci := 0) (v := .int (nI 0)) (ty := .int) (C := RX0) (T := TX0) (N := 11) hx hb hts hin tyX0 tyX0_ok nmX0 hown hK hP hD hS 0 rfl rfl 9 (by decide) kf65 (fun _ h9 => h9) rfl (by decide +kernel) rfl rfl (Nat.le_of_ble_eq_true rfl) dX0_refuse_26 (fun H locs hP hD hS => ?_)
      have hP : va_P (dC, dI) vwCl (tn_ws h a1 a2 a3 a4 a5 a6 a7 cI cL cZ cnt onc fp sp mo on u_3.1 u_3.2 rp 0 rl) H := hP
      have hD : va_D A (tn_ws h a1 a2 a3 a4 a5 a6 a7 cI cL cZ cnt onc fp sp mo on u_3.1 u_3.2 rp 0 rl) := hD
      refine lv_aload_n hx hb dX0_refuse_29 rfl (lv_at hl 0 rfl) ?_
      refine lv_iload_n hx hb dX0_refuse_30 rfl (lv_at hl 1 rfl) ?_
      have hF := tn_freeA hD hS hA
      refine va_callv (va_runV (As := [.int (nI i)]) (rest := []) ⟨hx, hb, hml, hown, hts⟩ (cX0_append_ok l dC dI h a1 a2 a3 a4 a5 a6 a7 cI cL cZ cnt onc fp sp mo on u_3.1 u_3.2 rp 0 rl H.size (by omega) i) (cwV 1 hts gX0_refuse_X0_append rfl rfl rfl (by decide +kernel) ⟨Nat.le_of_ble_eq_true rfl, Nat.le_of_ble_eq_true rfl⟩) (tn_preV hK hP hD (ci := 0) rfl 0 rfl) rfl rfl hl.1 rfl (lv_room (Nat.le_of_ble_eq_true rfl)) dX0_refuse_31 ⟨Nat.le_of_ble_eq_true rfl, Nat.le_of_ble_eq_true rfl⟩) hS (fun q _ h => hF q h) hF (fun u_31 t H1 locs ht hvm hw_31 hB hz1 hk1 hS => ?_)
      obtain ⟨hP1, -, hD1⟩ := hB
      rw [ht] at hP1
      have hD := hD1.weaken (fun _ q _ hq => hF q.1 hq)
      clear hP hk1 hF hz1 ht hvm hD1
      generalize H1 = H at hP1 hS ⊢
      have hP := hP1
      clear hP1
      refine lv_aload_n hx hb dX0_refuse_34 rfl (lv_at hl 0 rfl) ?_
      refine lv_iload_n hx hb dX0_refuse_35 rfl (lv_at hl 2 rfl) ?_
      have hF := tn_freeA hD hS hA
      refine va_callv (va_runV (As := [.int (nI j)]) (rest := []) ⟨hx, hb, hml, hown, hts⟩ (cX0_appendBestFrom_ok l dC dI h a1 a2 a3 a4 a5 a6 a7 cI cL cZ cnt onc fp sp mo on u_3.1 u_3.2 (va_up rp 0 i) (0 + 1) rl H.size g j hj n0 hsn (by omega)) (cwV 1 hts gX0_refuse_X0_appendBestFrom rfl rfl rfl (by decide +kernel) ⟨Nat.le_of_ble_eq_true rfl, Nat.le_of_ble_eq_true rfl⟩) (tn_preV hK hP hD (ci := 0) rfl 0 rfl) rfl rfl hl.1 rfl (lv_room (Nat.le_of_ble_eq_true rfl)) dX0_refuse_36 ⟨Nat.le_of_ble_eq_true rfl, Nat.le_of_ble_eq_true rfl⟩) hS (fun q _ h => hF q h) hF (fun u_36 t H1 locs ht hvm hw_36 hB hz1 hk1 hS => ?_)
      obtain ⟨hP1, -, hD1⟩ := hB
      rw [ht] at hP1
      have hD := hD1.weaken (fun _ q _ hq => hF q.1 hq)
      clear hP hk1 hF hz1 ht hvm hD1
      generalize H1 = H at hP1 hS ⊢
      have hP := hP1
      clear hP1
      refine lv_aload_n hx hb dX0_refuse_39 rfl (lv_at hl 0 rfl) ?_
      refine lv_aload_n hx hb dX0_refuse_40 rfl (lv_at hl 0 rfl) ?_
      refine va_get (D := (dC, dI)) (ci := 0) (v := .ref a5) (C := RX0) (T := TX0) (N := 11) hx hb hts hin hown hK hP 0 rfl rfl 6 (by decide) kf24 (fun _ h9 => h9) rfl dX0_refuse_41 ?_
      refine lv_iload_n hx hb dX0_refuse_44 rfl (lv_at hl 2 rfl) ?_
      refine tn_lald (i := j) (v := u_3.1 j) hx hb hK hP 5 1 rfl rfl (by omega) (by decide) rfl dX0_refuse_45 ?_
      refine lv_lload_n hx hb dX0_refuse_46 rfl (lv_at hl 3 rfl) ?_
      refine lv_ladd hx hb dX0_refuse_47 ?_
      refine va_put (D := (dC, dI)) (ci := 0) (v := .long ((u_3.1 j) + cv)) (ty := .long) (C := RX0) (T := TX0) (N := 11) hx hb hts hin tyX0 tyX0_ok nmX0 hown hK hP hD hS 0 rfl rfl 10 (by decide) kf71 (fun _ h9 => h9) rfl (by decide +kernel) rfl rfl (Nat.le_of_ble_eq_true rfl) dX0_refuse_48 (fun H locs hP hD hS => ?_)
      have hP : va_P (dC, dI) vwCl (tn_ws h a1 a2 a3 a4 a5 a6 a7 cI cL cZ cnt onc fp sp mo on u_3.1 u_3.2 u_36.1 u_36.2 ((u_3.1 j) + cv)) H := hP
      have hD : va_D A (tn_ws h a1 a2 a3 a4 a5 a6 a7 cI cL cZ cnt onc fp sp mo on u_3.1 u_3.2 u_36.1 u_36.2 ((u_3.1 j) + cv)) := hD
      refine lv_iconst (v := nI 1) hx hb dX0_refuse_51 (by decide) ?_
      exact W.zret (v := nI 1) hx hb hr rfl (fun t ht hW => ⟨⟨nI 1, ((u_3.1, u_3.2), u_36.1, u_36.2, (u_3.1 j) + cv), rfl, tn_ref_yes g hc1 hc2 hm_3.1 hn0 hbe c_18 rp rs rl hw_36, by rw [ht]; exact hP, va_K.moved hW.alike hK, hD⟩, hS.F ht⟩) hS.2.2 dX0_refuse_52
    · skip
      refine lv_iconst (v := nI 0) hx hb dX0_refuse_22 (by decide) ?_
      exact W.zret (v := nI 0) hx hb hr rfl (fun t ht hW => ⟨⟨nI 0, ((u_3.1, u_3.2), rp, rs, rl), rfl, Or.inr ⟨tn_ref_no g hj hc1 hc2 hm_3.1 (Or.inr ⟨hz, c_18⟩), rfl, rfl, rfl, rfl⟩, by rw [ht]; exact hP, va_K.moved hW.alike hK, hD⟩, hS.F ht⟩) hS.2.2 dX0_refuse_23
set_option maxHeartbeats 4000000 in
set_option maxRecDepth 100000 in
/-- add(x, y, cv) -/
theorem cX0_add_ok (l : Launch) (dC : Nat → ClassId) (dI : Nat → Nat → Nat) (h a1 a2 a3 a4 a5 a6 a7 : Nat) (cI cL cZ : ClassId) (cnt onc : Nat) (fp sp : Nat → Nat) (mo : Nat → Int64) (on : Nat → Bool) (lf : Nat → Int64) (sf : Nat → Int32) (rp : Nat → Nat) (rs : Nat) (rl : Int64) (sz : Nat) (g : tn_good cnt fp sp mo) (ok : tn_ok (tn_E cnt fp sp mo on)) (x y : Int32) (cv : Int64) : Met l yX0_add wsX0_add ({ frames := 5, cells := 0, slots := 0, locals := 118 }) (va_Pc [.ref h, .int x, .int y, .long cv] (tn_Pre dC dI (tn_tys cI cL cZ) (tn_ws h a1 a2 a3 a4 a5 a6 a7 cI cL cZ cnt onc fp sp mo on lf sf rp rs rl) sz)) (va_Qi (S := tn_D × Nat × Nat × (Nat → Nat) × (Nat → Nat) × (Nat → Int64) × (Nat → Bool) × (Nat → Nat) × Nat × Int64) (fun r u => sp_add cnt fp sp mo on x y cv r rp rs rl u.2.1 u.2.2.2.1 u.2.2.2.2.1 u.2.2.2.2.2.1 u.2.2.2.2.2.2.1 u.2.2.2.2.2.2.2.1 u.2.2.2.2.2.2.2.2.1 u.2.2.2.2.2.2.2.2.2 ∧ u.2.2.1 + cnt = onc + u.2.1) (fun u t => tn_at dC dI (tn_tys cI cL cZ) (va_A (tn_ws h a1 a2 a3 a4 a5 a6 a7 cI cL cZ cnt onc fp sp mo on lf sf rp rs rl) sz) (tn_ws h a1 a2 a3 a4 a5 a6 a7 cI cL cZ u.2.1 u.2.2.1 u.2.2.2.1 u.2.2.2.2.1 u.2.2.2.2.2.1 u.2.2.2.2.2.2.1 u.1.1 u.1.2 u.2.2.2.2.2.2.2.1 u.2.2.2.2.2.2.2.2.1 u.2.2.2.2.2.2.2.2.2) t) (va_A (tn_ws h a1 a2 a3 a4 a5 a6 a7 cI cL cZ cnt onc fp sp mo on lf sf rp rs rl) sz)) 0 0 (va_A (tn_ws h a1 a2 a3 a4 a5 a6 a7 cI cL cZ cnt onc fp sp mo on lf sf rp rs rl) sz) := by
  refine Met.ofW (cc := cX0_add) (maxL := 6) (ret := (some .int)) (by decide) rfl ?_
  intro p e s m args below meth c s₁ B hml hv
  obtain ⟨rfl, hsz, hP, hK, hD0⟩ := hv
  have hx := B.exec
  have hb := B.bytes
  have hr := B.returns
  have hts := atoms_spec (ws := wsX0_add) B.pre
  have hown : s.vm.findClass RX0 = some m.cls := findClass_of_methodNamed B.named
  have hlocks := B.notSynchronized
  subst hsz
  have hD := hD0.self (sz := s.heap.size)
  generalize hAe : va_A (tn_ws h a1 a2 a3 a4 a5 a6 a7 cI cL cZ cnt onc fp sp mo on lf sf rp rs rl) s.heap.size = A at hD ⊢
  have hA : ∀ q : Nat, s.heap.size ≤ q → A q := fun q h => by rw [← hAe]; exact Or.inr h
  have hS : va_S A s.heap s.heap [] := va_S.rf
  have hl := lv_entry ([.ref h, .int x, .int y, .long cv]) (n := 6) (Nat.le_of_ble_eq_true rfl)
  rw [lg_entry_eq]
  generalize (lg_sl ([.ref h, .int x, .int y, .long cv]) ++ List.replicate (6 - (lg_sl ([.ref h, .int x, .int y, .long cv])).length) Slot.unset).toArray = ls at hl ⊢
  have hl : lv_has ls 6 [(0, .ref h), (1, .int x), (2, .int y), (3, .long cv)] := hl
  have kf33 := hts (.fieldLink RX0 33 "TimeNet" "count" "I") (by decide +kernel)
  have kf9 := hts (.fieldLink RX0 9 "TimeNet" "firstPoint" "[I") (by decide +kernel)
  have kf13 := hts (.fieldLink RX0 13 "TimeNet" "secondPoint" "[I") (by decide +kernel)
  have kf16 := hts (.fieldLink RX0 16 "TimeNet" "most" "[J") (by decide +kernel)
  have kf20 := hts (.fieldLink RX0 20 "TimeNet" "isOn" "[Z") (by decide +kernel)
  have kf44 := hts (.fieldLink RX0 44 "TimeNet" "onCount" "I") (by decide +kernel)
  have hin : ∀ w ∈ u_ws RX0 TX0 11, w ∈ wsX0_add := by decide +kernel
  have hc := g.1
  refine lv_aload_n hx hb dX0_add_0 rfl (lv_at hl 0 rfl) ?_
  refine va_get (D := (dC, dI)) (ci := 0) (v := .int (nI cnt)) (C := RX0) (T := TX0) (N := 11) hx hb hts hin hown hK hP 0 rfl rfl 4 (by decide) kf33 (fun _ h9 => h9) rfl dX0_add_1 ?_
  refine lv_bipush (v := nI 120) hx hb dX0_add_4 (by decide) ?_
  refine lv_icmp_ge (tgt := 18) hx hb dX0_add_6 (by decide) (fun c_6 => ?_) (fun c_6 => ?_)
  · skip
    have hfull : 120 ≤ cnt := (nI_leI (by omega) (by omega)).mp c_6
    refine lv_iconst (v := (-1)) hx hb dX0_add_18 (by decide) ?_
    exact W.iret (v := (-1)) hx hb hr (fun t ht hW => ⟨⟨(-1), ((lf, sf), cnt, onc, fp, sp, mo, on, rp, rs, rl), rfl, ⟨Or.inr ⟨fun q => absurd q (by omega), rfl, rfl, rfl, rfl, rfl, rfl, rfl, rfl, rfl⟩, rfl⟩, by rw [ht]; exact hP, va_K.moved hW.alike hK, hD⟩, hS.F ht⟩) hS.2.2 dX0_add_19
  · skip
    have hfull : cnt < 120 := Nat.lt_of_not_le (fun q => c_6 (nI_le q (by omega)))
    refine lv_iload_n hx hb dX0_add_9 rfl (lv_at hl 1 rfl) ?_
    refine lv_iload_n hx hb dX0_add_10 rfl (lv_at hl 2 rfl) ?_
    refine lv_lload_n hx hb dX0_add_11 rfl (lv_at hl 3 rfl) ?_
    have hF := tn_freeA hD hS hA
    refine va_calli (va_runS (As := [.int x, .int y, .long cv]) (rest := []) ⟨hx, hb, hml, hown, hts⟩ (cX0_isConstraint_ok l dC dI h a1 a2 a3 a4 a5 a6 a7 cI cL cZ cnt onc fp sp mo on lf sf rp rs rl s.heap.size x y cv) (va_cwS 3 hts gX0_add_X0_isConstraint rfl rfl rfl (by decide +kernel) ⟨Nat.le_of_ble_eq_true rfl, Nat.le_of_ble_eq_true rfl⟩) (tn_preS hK hP hD) rfl rfl hl.1 rfl (lv_room (Nat.le_of_ble_eq_true rfl)) dX0_add_12 ⟨Nat.le_of_ble_eq_true rfl, Nat.le_of_ble_eq_true rfl⟩) hS (fun q _ h => hF q h) hF (fun r_12 u_12 t H1 locs ht hvm hw_12 hB hz1 hk1 hS => ?_)
    obtain ⟨hP1, -, hD1⟩ := hB
    rw [ht] at hP1
    have hD := hD1.weaken (fun _ q _ hq => hF q.1 hq)
    clear hP hk1 hF hz1 ht hvm hD1
    generalize H1 = H at hP1 hS ⊢
    have hP := hP1
    clear hP1
    refine lv_if_ne (tgt := 20) hx hb dX0_add_15 (by decide) (fun c_15 => ?_) (fun c_15 => ?_)
    · skip
      obtain ⟨a, b, ha, hb', hab, ex, ey, hc1, hc2⟩ : ∃ a b, a < 20 ∧ b < 20 ∧ a ≠ b ∧ x = nI a ∧ y = nI b ∧ -1000000000000 ≤ cv.toInt ∧ cv.toInt ≤ 1000000000000 := by
        rcases hw_12 with ⟨_, q⟩ | ⟨q, _⟩
        · exact q
        · exact absurd (q : r_12 = 0) c_15
      subst ex
      subst ey
      refine lv_aload_n hx hb dX0_add_20 rfl (lv_at hl 0 rfl) ?_
      refine lv_iload_n hx hb dX0_add_21 rfl (lv_at hl 1 rfl) ?_
      refine lv_iload_n hx hb dX0_add_22 rfl (lv_at hl 2 rfl) ?_
      refine lv_lload_n hx hb dX0_add_23 rfl (lv_at hl 3 rfl) ?_
      have hF := tn_freeA hD hS hA
      refine va_calli (va_runV (As := [.int (nI a), .int (nI b), .long cv]) (rest := []) ⟨hx, hb, hml, hown, hts⟩ (cX0_refuse_ok l dC dI h a1 a2 a3 a4 a5 a6 a7 cI cL cZ cnt onc fp sp mo on lf sf rp rs rl H.size g ok a ha b hb' cv hc1 hc2) (cwV 3 hts gX0_add_X0_refuse rfl rfl rfl (by decide +kernel) ⟨Nat.le_of_ble_eq_true rfl, Nat.le_of_ble_eq_true rfl⟩) (tn_preV hK hP hD (ci := 0) rfl 0 rfl) rfl rfl hl.1 rfl (lv_room (Nat.le_of_ble_eq_true rfl)) dX0_add_24 ⟨Nat.le_of_ble_eq_true rfl, Nat.le_of_ble_eq_true rfl⟩) hS (fun q _ h => hF q h) hF (fun r_24 u_24 t H1 locs ht hvm hw_24 hB hz1 hk1 hS => ?_)
      obtain ⟨hP1, -, hD1⟩ := hB
      rw [ht] at hP1
      have hD := hD1.weaken (fun _ q _ hq => hF q.1 hq)
      clear hP hk1 hF hz1 ht hvm hD1
      generalize H1 = H at hP1 hS ⊢
      have hP := hP1
      clear hP1
      refine lv_if_eq (tgt := 33) hx hb dX0_add_27 (by decide) (fun c_27 => ?_) (fun c_27 => ?_)
      · skip
        have hr0 : r_24 = nI 0 := c_27
        refine lv_aload_n hx hb dX0_add_33 rfl (lv_at hl 0 rfl) ?_
        refine va_get (D := (dC, dI)) (ci := 0) (v := .int (nI cnt)) (C := RX0) (T := TX0) (N := 11) hx hb hts hin hown hK hP 0 rfl rfl 4 (by decide) kf33 (fun _ h9 => h9) rfl dX0_add_34 ?_
        refine lv_istore (lv' := [(5, .int (nI cnt)), (0, .ref h), (1, .int (nI a)), (2, .int (nI b)), (3, .long cv)]) hx hb dX0_add_37 hl (by decide) rfl (fun ls hl => ?_)
        refine lv_aload_n hx hb dX0_add_39 rfl (lv_at hl 1 rfl) ?_
        refine va_get (D := (dC, dI)) (ci := 0) (v := .ref a1) (C := RX0) (T := TX0) (N := 11) hx hb hts hin hown hK hP 0 rfl rfl 0 (by decide) kf9 (fun _ h9 => h9) rfl dX0_add_40 ?_
        refine lv_iload hx hb dX0_add_43 (lv_at hl 0 rfl) ?_
        refine lv_iload_n hx hb dX0_add_45 rfl (lv_at hl 2 rfl) ?_
        refine tn_iast (i := cnt) (f' := (fun k => nI (va_up fp cnt a k))) hx hb hK hP hD hS 1 0 rfl rfl (by omega) (by decide) (tn_updN fp cnt a) dX0_add_46 (fun H locs hP hD hS => ?_)
        have hP : va_P (dC, dI) vwCl (tn_ws h a1 a2 a3 a4 a5 a6 a7 cI cL cZ cnt onc (va_up fp cnt a) sp mo on u_24.1.1 u_24.1.2 u_24.2.1 u_24.2.2.1 u_24.2.2.2) H := hP
        have hD : va_D A (tn_ws h a1 a2 a3 a4 a5 a6 a7 cI cL cZ cnt onc (va_up fp cnt a) sp mo on u_24.1.1 u_24.1.2 u_24.2.1 u_24.2.2.1 u_24.2.2.2) := hD
        refine lv_aload_n hx hb dX0_add_47 rfl (lv_at hl 1 rfl) ?_
        refine va_get (D := (dC, dI)) (ci := 0) (v := .ref a2) (C := RX0) (T := TX0) (N := 11) hx hb hts hin hown hK hP 0 rfl rfl 1 (by decide) kf13 (fun _ h9 => h9) rfl dX0_add_48 ?_
        refine lv_iload hx hb dX0_add_51 (lv_at hl 0 rfl) ?_
        refine lv_iload_n hx hb dX0_add_53 rfl (lv_at hl 3 rfl) ?_
        refine tn_iast (i := cnt) (f' := (fun k => nI (va_up sp cnt b k))) hx hb hK hP hD hS 2 0 rfl rfl (by omega) (by decide) (tn_updN sp cnt b) dX0_add_54 (fun H locs hP hD hS => ?_)
        have hP : va_P (dC, dI) vwCl (tn_ws h a1 a2 a3 a4 a5 a6 a7 cI cL cZ cnt onc (va_up fp cnt a) (va_up sp cnt b) mo on u_24.1.1 u_24.1.2 u_24.2.1 u_24.2.2.1 u_24.2.2.2) H := hP
        have hD : va_D A (tn_ws h a1 a2 a3 a4 a5 a6 a7 cI cL cZ cnt onc (va_up fp cnt a) (va_up sp cnt b) mo on u_24.1.1 u_24.1.2 u_24.2.1 u_24.2.2.1 u_24.2.2.2) := hD
        refine lv_aload_n hx hb dX0_add_55 rfl (lv_at hl 1 rfl) ?_
        refine va_get (D := (dC, dI)) (ci := 0) (v := .ref a3) (C := RX0) (T := TX0) (N := 11) hx hb hts hin hown hK hP 0 rfl rfl 2 (by decide) kf16 (fun _ h9 => h9) rfl dX0_add_56 ?_
        refine lv_iload hx hb dX0_add_59 (lv_at hl 0 rfl) ?_
        refine lv_lload_n hx hb dX0_add_61 rfl (lv_at hl 4 rfl) ?_
        refine tn_last (i := cnt) (f' := (vp_updL mo cnt cv)) hx hb hK hP hD hS 3 1 rfl rfl (by omega) (by decide) rfl dX0_add_62 (fun H locs hP hD hS => ?_)
        have hP : va_P (dC, dI) vwCl (tn_ws h a1 a2 a3 a4 a5 a6 a7 cI cL cZ cnt onc (va_up fp cnt a) (va_up sp cnt b) (vp_updL mo cnt cv) on u_24.1.1 u_24.1.2 u_24.2.1 u_24.2.2.1 u_24.2.2.2) H := hP
        have hD : va_D A (tn_ws h a1 a2 a3 a4 a5 a6 a7 cI cL cZ cnt onc (va_up fp cnt a) (va_up sp cnt b) (vp_updL mo cnt cv) on u_24.1.1 u_24.1.2 u_24.2.1 u_24.2.2.1 u_24.2.2.2) := hD
        refine lv_aload_n hx hb dX0_add_63 rfl (lv_at hl 1 rfl) ?_
        refine va_get (D := (dC, dI)) (ci := 0) (v := .ref a4) (C := RX0) (T := TX0) (N := 11) hx hb hts hin hown hK hP 0 rfl rfl 3 (by decide) kf20 (fun _ h9 => h9) rfl dX0_add_64 ?_
        refine lv_iload hx hb dX0_add_67 (lv_at hl 0 rfl) ?_
        refine lv_iconst (v := nI 1) hx hb dX0_add_69 (by decide) ?_
        refine tn_zast (i := cnt) (f' := (fun k => tn_b (va_up on cnt true k))) hx hb hK hP hD hS 4 2 rfl rfl (by omega) (by decide) (tn_updB on cnt true) dX0_add_70 (fun H locs hP hD hS => ?_)
        have hP : va_P (dC, dI) vwCl (tn_ws h a1 a2 a3 a4 a5 a6 a7 cI cL cZ cnt onc (va_up fp cnt a) (va_up sp cnt b) (vp_updL mo cnt cv) (va_up on cnt true) u_24.1.1 u_24.1.2 u_24.2.1 u_24.2.2.1 u_24.2.2.2) H := hP
        have hD : va_D A (tn_ws h a1 a2 a3 a4 a5 a6 a7 cI cL cZ cnt onc (va_up fp cnt a) (va_up sp cnt b) (vp_updL mo cnt cv) (va_up on cnt true) u_24.1.1 u_24.1.2 u_24.2.1 u_24.2.2.1 u_24.2.2.2) := hD
        refine lv_aload_n hx hb dX0_add_71 rfl (lv_at hl 1 rfl) ?_
        refine lv_dup hx hb dX0_add_72 rfl ?_
        refine va_get (D := (dC, dI)) (ci := 0) (v := .int (nI cnt)) (C := RX0) (T := TX0) (N := 11) hx hb hts hin hown hK hP 0 rfl rfl 4 (by decide) kf33 (fun _ h9 => h9) rfl dX0_add_73 ?_
        refine lv_iconst (v := nI 1) hx hb dX0_add_76 (by decide) ?_
        refine tn_iadd (a := cnt) (b := 1) hx hb dX0_add_77 ?_
        refine va_put (D := (dC, dI)) (ci := 0) (v := .int (nI (cnt + 1))) (ty := .int) (C := RX0) (T := TX0) (N := 11) hx hb hts hin tyX0 tyX0_ok nmX0 hown hK hP hD hS 0 rfl rfl 4 (by decide) kf33 (fun _ h9 => h9) rfl (by decide +kernel) rfl rfl (Nat.le_of_ble_eq_true rfl) dX0_add_78 (fun H locs hP hD hS => ?_)
        have hP : va_P (dC, dI) vwCl (tn_ws h a1 a2 a3 a4 a5 a6 a7 cI cL cZ (cnt + 1) onc (va_up fp cnt a) (va_up sp cnt b) (vp_updL mo cnt cv) (va_up on cnt true) u_24.1.1 u_24.1.2 u_24.2.1 u_24.2.2.1 u_24.2.2.2) H := hP
        have hD : va_D A (tn_ws h a1 a2 a3 a4 a5 a6 a7 cI cL cZ (cnt + 1) onc (va_up fp cnt a) (va_up sp cnt b) (vp_updL mo cnt cv) (va_up on cnt true) u_24.1.1 u_24.1.2 u_24.2.1 u_24.2.2.1 u_24.2.2.2) := hD
        refine lv_aload_n hx hb dX0_add_81 rfl (lv_at hl 1 rfl) ?_
        refine lv_dup hx hb dX0_add_82 rfl ?_
        refine va_get (D := (dC, dI)) (ci := 0) (v := .int (nI onc)) (C := RX0) (T := TX0) (N := 11) hx hb hts hin hown hK hP 0 rfl rfl 5 (by decide) kf44 (fun _ h9 => h9) rfl dX0_add_83 ?_
        refine lv_iconst (v := nI 1) hx hb dX0_add_86 (by decide) ?_
        refine tn_iadd (a := onc) (b := 1) hx hb dX0_add_87 ?_
        refine va_put (D := (dC, dI)) (ci := 0) (v := .int (nI (onc + 1))) (ty := .int) (C := RX0) (T := TX0) (N := 11) hx hb hts hin tyX0 tyX0_ok nmX0 hown hK hP hD hS 0 rfl rfl 5 (by decide) kf44 (fun _ h9 => h9) rfl (by decide +kernel) rfl rfl (Nat.le_of_ble_eq_true rfl) dX0_add_88 (fun H locs hP hD hS => ?_)
        have hP : va_P (dC, dI) vwCl (tn_ws h a1 a2 a3 a4 a5 a6 a7 cI cL cZ (cnt + 1) (onc + 1) (va_up fp cnt a) (va_up sp cnt b) (vp_updL mo cnt cv) (va_up on cnt true) u_24.1.1 u_24.1.2 u_24.2.1 u_24.2.2.1 u_24.2.2.2) H := hP
        have hD : va_D A (tn_ws h a1 a2 a3 a4 a5 a6 a7 cI cL cZ (cnt + 1) (onc + 1) (va_up fp cnt a) (va_up sp cnt b) (vp_updL mo cnt cv) (va_up on cnt true) u_24.1.1 u_24.1.2 u_24.2.1 u_24.2.2.1 u_24.2.2.2) := hD
        refine lv_iload hx hb dX0_add_91 (lv_at hl 0 rfl) ?_
        exact W.iret (v := nI cnt) hx hb hr (fun t ht hW => ⟨⟨nI cnt, ((u_24.1.1, u_24.1.2), (cnt + 1), (onc + 1), va_up fp cnt a, va_up sp cnt b, vp_updL mo cnt cv, va_up on cnt true, u_24.2.1, u_24.2.2.1, u_24.2.2.2), rfl, ⟨Or.inl ⟨a, b, r_24, hfull, ha, hb', hab, rfl, rfl, hc1, hc2, hw_24, Or.inr ⟨hr0, rfl, rfl, rfl, rfl, rfl, rfl⟩⟩, by show onc + 1 + cnt = onc + (cnt + 1); omega⟩, by rw [ht]; exact hP, va_K.moved hW.alike hK, hD⟩, hS.F ht⟩) hS.2.2 dX0_add_93
      · skip
        have hr1 : r_24 = nI 1 := by
          rcases hw_24 with ⟨_, _, _, _, _, q, _⟩ | ⟨_, q, _⟩
          · exact q
          · exact absurd (q : r_24 = 0) c_27
        refine lv_bipush (v := (-2)) hx hb dX0_add_30 (by decide) ?_
        exact W.iret (v := (-2)) hx hb hr (fun t ht hW => ⟨⟨(-2), ((u_24.1.1, u_24.1.2), cnt, onc, fp, sp, mo, on, u_24.2.1, u_24.2.2.1, u_24.2.2.2), rfl, ⟨Or.inl ⟨a, b, r_24, hfull, ha, hb', hab, rfl, rfl, hc1, hc2, hw_24, Or.inl ⟨hr1, rfl, rfl, rfl, rfl, rfl, rfl⟩⟩, rfl⟩, by rw [ht]; exact hP, va_K.moved hW.alike hK, hD⟩, hS.F ht⟩) hS.2.2 dX0_add_32
    · skip
      have hnc : ¬ ∃ a b, a < 20 ∧ b < 20 ∧ a ≠ b ∧ x = nI a ∧ y = nI b ∧ -1000000000000 ≤ cv.toInt ∧ cv.toInt ≤ 1000000000000 := by
        rcases hw_12 with ⟨q, _⟩ | ⟨_, q⟩
        · exact absurd (q ▸ c_15 : nI 1 = 0) (by decide)
        · exact q
      refine lv_iconst (v := (-1)) hx hb dX0_add_18 (by decide) ?_
      exact W.iret (v := (-1)) hx hb hr (fun t ht hW => ⟨⟨(-1), ((lf, sf), cnt, onc, fp, sp, mo, on, rp, rs, rl), rfl, ⟨Or.inr ⟨fun _ a b h1 h2 h3 h4 h5 h6 h7 => hnc ⟨a, b, h1, h2, h3, h4, h5, h6, h7⟩, rfl, rfl, rfl, rfl, rfl, rfl, rfl, rfl, rfl⟩, rfl⟩, by rw [ht]; exact hP, va_K.moved hW.alike hK, hD⟩, hS.F ht⟩) hS.2.2 dX0_add_19
