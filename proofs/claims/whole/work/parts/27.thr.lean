theorem tn_bound_ok {E : Nat → Nat → Int → Prop} {t : Nat} {d : tn_D} (h : tn_mok E t d) {p : Nat} (hp : p < 20) : sp_bound E p t (d.1 p) := by
  rcases h p hp with ⟨q1, q2⟩ | ⟨q1, n, hn, he, hb⟩
  · exact Or.inr ⟨q2, q1⟩
  · exact Or.inl ⟨_, n, hb, rfl⟩
theorem tn_earl_no {E : Nat → Nat → Int → Prop} {d : tn_D} (h : tn_mok E 0 d) {p : Nat} (hp : p < 20) (hm : d.1 p = tn_MX) : sp_earl E p (-9223372036854775808) := Or.inr ⟨tn_mok_n h hp hm, rfl⟩
theorem tn_earl_yes {cnt : Nat} {fp sp : Nat → Nat} {mo : Nat → Int64} {on : Nat → Bool} (g : tn_good cnt fp sp mo) {d : tn_D} (h : tn_mok (tn_E cnt fp sp mo on) 0 d) {p : Nat} (hp : p < 20) (hm : ¬ d.1 p = tn_MX) : sp_earl (tn_E cnt fp sp mo on) p (-d.1 p) := by
  obtain ⟨n, hn, -, hb⟩ := tn_mok_f h hp hm
  have bd := tn_wk_bd (tn_E_bd g) n hb.1
  refine Or.inl ⟨_, n, hb, ?_⟩
  rw [Int64.toInt_neg]
  exact Int.bmod_eq_of_le (by omega) (by omega)
set_option maxHeartbeats 4000000 in
set_option maxRecDepth 100000 in
/-- bound(x, y): it answers, or throws -/
theorem cX0_bound_ok (l : Launch) (dC : Nat → ClassId) (dI : Nat → Nat → Nat) (h a1 a2 a3 a4 a5 a6 a7 : Nat) (cI cL cZ : ClassId) (cnt onc : Nat) (fp sp : Nat → Nat) (mo : Nat → Int64) (on : Nat → Bool) (lf : Nat → Int64) (sf : Nat → Int32) (rp : Nat → Nat) (rs : Nat) (rl : Int64) (sz : Nat) (hst : l.stackTraces = false) (g : tn_good cnt fp sp mo) (ok : tn_ok (tn_E cnt fp sp mo on)) (x y : Int32) : vx_Met l yX0_bound wsX0_bound ({ frames := 6, cells := 1, slots := 6, locals := 81 }) (va_Pc [.ref h, .int x, .int y] (tn_PreX dC dI (tn_tys cI cL cZ) (tn_ws h a1 a2 a3 a4 a5 a6 a7 cI cL cZ cnt onc fp sp mo on lf sf rp rs rl) sz)) (va_Ql (S := tn_D) (fun r _ => ∃ a b, a < 20 ∧ b < 20 ∧ x = nI a ∧ y = nI b ∧ sp_bound (tn_E cnt fp sp mo on) a b r) (fun u t => tn_at dC dI (tn_tys cI cL cZ) (va_A (tn_ws h a1 a2 a3 a4 a5 a6 a7 cI cL cZ cnt onc fp sp mo on lf sf rp rs rl) sz) (tn_ws h a1 a2 a3 a4 a5 a6 a7 cI cL cZ cnt onc fp sp mo on u.1 u.2 rp rs rl) t) (va_A (tn_ws h a1 a2 a3 a4 a5 a6 a7 cI cL cZ cnt onc fp sp mo on lf sf rp rs rl) sz)) (vx_X (S := Unit) (fun _ => ∀ a b, a < 20 → b < 20 → ¬ (x = nI a ∧ y = nI b)) (fun E _ t => E = tn_NS ∧ tn_at dC dI (tn_tys cI cL cZ) (va_A (tn_ws h a1 a2 a3 a4 a5 a6 a7 cI cL cZ cnt onc fp sp mo on lf sf rp rs rl) sz) (tn_ws h a1 a2 a3 a4 a5 a6 a7 cI cL cZ cnt onc fp sp mo on lf sf rp rs rl) t) (va_A (tn_ws h a1 a2 a3 a4 a5 a6 a7 cI cL cZ cnt onc fp sp mo on lf sf rp rs rl) sz)) 1 6 (va_A (tn_ws h a1 a2 a3 a4 a5 a6 a7 cI cL cZ cnt onc fp sp mo on lf sf rp rs rl) sz) := by
  refine vx_ofW (cc := cX0_bound) (maxL := 3) (ret := (some .long)) (by decide) rfl ?_
  intro p e s m args below meth c s₁ B hml hex hv
  obtain ⟨rfl, ⟨hsz, hP, hK, hD0⟩, hfc, hZs⟩ := hv
  have hx := B.exec
  have hb := B.bytes
  have hr := B.returns
  have hts := atoms_spec (ws := wsX0_bound) B.pre
  have hown : s.vm.findClass RX0 = some m.cls := findClass_of_methodNamed B.named
  have hlocks := B.notSynchronized
  subst hsz
  have hD := hD0.self (sz := s.heap.size)
  generalize hAe : va_A (tn_ws h a1 a2 a3 a4 a5 a6 a7 cI cL cZ cnt onc fp sp mo on lf sf rp rs rl) s.heap.size = A at hD hZs ⊢
  have hA : ∀ q : Nat, s.heap.size ≤ q → A q := fun q h => by rw [← hAe]; exact Or.inr h
  have hS : va_S A s.heap s.heap [] := va_S.rf
  have hl := lv_entry ([.ref h, .int x, .int y]) (n := 3) (Nat.le_of_ble_eq_true rfl)
  rw [lg_entry_eq]
  generalize (lg_sl ([.ref h, .int x, .int y]) ++ List.replicate (3 - (lg_sl ([.ref h, .int x, .int y])).length) Slot.unset).toArray = ls at hl ⊢
  have hl : lv_has ls 3 [(0, .ref h), (1, .int x), (2, .int y)] := hl
  have kf24 := hts (.fieldLink RX0 24 "TimeNet" "lengthFrom" "[J") (by decide +kernel)
  have hin : ∀ w ∈ u_ws RX0 TX0 11, w ∈ wsX0_bound := by decide +kernel
  have hc := g.1
  have hwcl : Cond.classLink RX0 54 "java/util/NoSuchElementException" ∈ wsX0_bound := by decide +kernel
  have hwini : Cond.initialized "java/util/NoSuchElementException" ∈ wsX0_bound := by decide +kernel
  have hwat : ∀ w ∈ tn_at0.filter goodWord, w ∈ wsX0_bound := fun w h => List.mem_cons_of_mem _ (List.mem_append_right _ h)
  refine lv_iload_n hx hb dX0_bound_0 rfl (lv_at hl 1 rfl) ?_
  have hF := tn_freeA hD hS hA
  refine va_calli (va_runS (As := [.int x]) (rest := []) ⟨hx, hb, hml, hown, hts⟩ (cX0_isPoint_ok l dC dI h a1 a2 a3 a4 a5 a6 a7 cI cL cZ cnt onc fp sp mo on lf sf rp rs rl s.heap.size x) (va_cwS 1 hts gX0_bound_X0_isPoint rfl rfl rfl (by decide +kernel) ⟨Nat.le_of_ble_eq_true rfl, Nat.le_of_ble_eq_true rfl⟩) (tn_preS hK hP hD) rfl rfl hl.1 rfl (lv_room (Nat.le_of_ble_eq_true rfl)) dX0_bound_1 ⟨Nat.le_of_ble_eq_true rfl, Nat.le_of_ble_eq_true rfl⟩) hS (fun q _ h => hF q h) hF (fun r_1 u_1 t H1 locs ht hvm hw_1 hB hz1 hk1 hS => ?_)
  obtain ⟨hP1, -, hD1⟩ := hB
  rw [ht] at hP1
  have hD := hD1.weaken (fun _ q _ hq => hF q.1 hq)
  clear hP hk1 hF hz1 ht hvm hD1
  generalize H1 = H at hP1 hS ⊢
  have hP := hP1
  clear hP1
  refine lv_if_eq (tgt := 14) hx hb dX0_bound_4 (by decide) (fun c_4 => ?_) (fun c_4 => ?_)
  · skip
    have hn_1 : ∀ j, j < 20 → x ≠ nI j := by
      rcases hw_1 with ⟨q, _⟩ | ⟨_, q⟩
      · exact absurd (q ▸ c_4 : nI 1 = 0) (by decide)
      · exact q
    exact vx_throw0 (cls := tn_NS) (names := ["java/lang/RuntimeException", "java/lang/Exception"]) (A := A) hx hb hst hown (by decide +kernel) (by decide +kernel) (hts (.classLink RX0 54 "java/util/NoSuchElementException") hwcl) (hts (.initialized "java/util/NoSuchElementException") hwini) (vx_hat (fun w h => hts w (hwat w h)) tn_at0_no hfc.use) tn_at0_good hZs.1 hZs.2 hS (hl.1.trans hml.symm) dX0_bound_14 dX0_bound_17 dX0_bound_18 dX0_bound_21 (fun x h => (hex x h).elim) (Nat.le_of_ble_eq_true rfl) (Nat.le_of_ble_eq_true rfl) (Nat.le_of_ble_eq_true rfl) (Nat.le_of_ble_eq_true rfl) hlocks (fun t hvm h1 h2 => tn_xc (fun a b ha _ q => hn_1 a ha q.1) hK hP hD hS hvm h1 h2) hS.2.2 (Nat.le_of_ble_eq_true rfl) (Nat.le_of_ble_eq_true rfl)
  · skip
    obtain ⟨ja, hja, eja⟩ : ∃ j, j < 20 ∧ x = nI j := by
      rcases hw_1 with ⟨_, q⟩ | ⟨q, _⟩
      · exact q
      · exact absurd (q : r_1 = 0) c_4
    subst eja
    refine lv_iload_n hx hb dX0_bound_7 rfl (lv_at hl 2 rfl) ?_
    have hF := tn_freeA hD hS hA
    refine va_calli (va_runS (As := [.int y]) (rest := []) ⟨hx, hb, hml, hown, hts⟩ (cX0_isPoint_ok l dC dI h a1 a2 a3 a4 a5 a6 a7 cI cL cZ cnt onc fp sp mo on lf sf rp rs rl H.size y) (va_cwS 1 hts gX0_bound_X0_isPoint rfl rfl rfl (by decide +kernel) ⟨Nat.le_of_ble_eq_true rfl, Nat.le_of_ble_eq_true rfl⟩) (tn_preS hK hP hD) rfl rfl hl.1 rfl (lv_room (Nat.le_of_ble_eq_true rfl)) dX0_bound_8 ⟨Nat.le_of_ble_eq_true rfl, Nat.le_of_ble_eq_true rfl⟩) hS (fun q _ h => hF q h) hF (fun r_8 u_8 t H1 locs ht hvm hw_8 hB hz1 hk1 hS => ?_)
    obtain ⟨hP1, -, hD1⟩ := hB
    rw [ht] at hP1
    have hD := hD1.weaken (fun _ q _ hq => hF q.1 hq)
    clear hP hk1 hF hz1 ht hvm hD1
    generalize H1 = H at hP1 hS ⊢
    have hP := hP1
    clear hP1
    refine lv_if_ne (tgt := 22) hx hb dX0_bound_11 (by decide) (fun c_11 => ?_) (fun c_11 => ?_)
    · skip
      obtain ⟨jb, hjb, ejb⟩ : ∃ j, j < 20 ∧ y = nI j := by
        rcases hw_8 with ⟨_, q⟩ | ⟨q, _⟩
        · exact q
        · exact absurd (q : r_8 = 0) c_11
      subst ejb
      refine lv_aload_n hx hb dX0_bound_22 rfl (lv_at hl 0 rfl) ?_
      refine lv_iload_n hx hb dX0_bound_23 rfl (lv_at hl 2 rfl) ?_
      have hF := tn_freeA hD hS hA
      refine va_callv (va_runV (As := [.int (nI jb)]) (rest := []) ⟨hx, hb, hml, hown, hts⟩ (cX0_measureTo_ok l dC dI h a1 a2 a3 a4 a5 a6 a7 cI cL cZ cnt onc fp sp mo on lf sf rp rs rl H.size g jb hjb) (cwV 1 hts gX0_bound_X0_measureTo rfl rfl rfl (by decide +kernel) ⟨Nat.le_of_ble_eq_true rfl, Nat.le_of_ble_eq_true rfl⟩) (tn_preV hK hP hD (ci := 0) rfl 0 rfl) rfl rfl hl.1 rfl (lv_room (Nat.le_of_ble_eq_true rfl)) dX0_bound_24 ⟨Nat.le_of_ble_eq_true rfl, Nat.le_of_ble_eq_true rfl⟩) hS (fun q _ h => hF q h) hF (fun u_24 t H1 locs ht hvm hw_24 hB hz1 hk1 hS => ?_)
      obtain ⟨hP1, -, hD1⟩ := hB
      rw [ht] at hP1
      have hD := hD1.weaken (fun _ q _ hq => hF q.1 hq)
      clear hP hk1 hF hz1 ht hvm hD1
      generalize H1 = H at hP1 hS ⊢
      have hP := hP1
      clear hP1
      refine lv_aload_n hx hb dX0_bound_27 rfl (lv_at hl 0 rfl) ?_
      refine va_get (D := (dC, dI)) (ci := 0) (v := .ref a5) (C := RX0) (T := TX0) (N := 11) hx hb hts hin hown hK hP 0 rfl rfl 6 (by decide) kf24 (fun _ h9 => h9) rfl dX0_bound_28 ?_
      refine lv_iload_n hx hb dX0_bound_31 rfl (lv_at hl 1 rfl) ?_
      refine tn_lald (i := ja) (v := u_24.1 ja) hx hb hK hP 5 1 rfl rfl (by omega) (by decide) rfl dX0_bound_32 ?_
      refine W.widen (k := 1) (n := 6) (by omega) (by omega) ?_
      exact vx_ret (W.lret (v := u_24.1 ja) hx hb hr (fun t ht hW => ⟨⟨u_24.1 ja, (u_24.1, u_24.2), rfl, ⟨ja, jb, hja, hjb, rfl, rfl, tn_bound_ok (tn_ms_ok g ok hjb hw_24) hja⟩, by rw [ht]; exact hP, va_K.moved hW.alike hK, hD⟩, hS.F ht⟩) hS.2.2 dX0_bound_33)
    · skip
      have hn_8 : ∀ j, j < 20 → y ≠ nI j := by
        rcases hw_8 with ⟨q, _⟩ | ⟨_, q⟩
        · exact absurd (q ▸ c_11 : nI 1 = 0) (by decide)
        · exact q
      exact vx_throw0 (cls := tn_NS) (names := ["java/lang/RuntimeException", "java/lang/Exception"]) (A := A) hx hb hst hown (by decide +kernel) (by decide +kernel) (hts (.classLink RX0 54 "java/util/NoSuchElementException") hwcl) (hts (.initialized "java/util/NoSuchElementException") hwini) (vx_hat (fun w h => hts w (hwat w h)) tn_at0_no hfc.use) tn_at0_good hZs.1 hZs.2 hS (hl.1.trans hml.symm) dX0_bound_14 dX0_bound_17 dX0_bound_18 dX0_bound_21 (fun x h => (hex x h).elim) (Nat.le_of_ble_eq_true rfl) (Nat.le_of_ble_eq_true rfl) (Nat.le_of_ble_eq_true rfl) (Nat.le_of_ble_eq_true rfl) hlocks (fun t hvm h1 h2 => tn_xc (fun a b _ hb q => hn_8 b hb q.2) hK hP hD hS hvm h1 h2) hS.2.2 (Nat.le_of_ble_eq_true rfl) (Nat.le_of_ble_eq_true rfl)
set_option maxHeartbeats 4000000 in
set_option maxRecDepth 100000 in
/-- earliest(x): it answers, or throws -/
theorem cX0_earliest_ok (l : Launch) (dC : Nat → ClassId) (dI : Nat → Nat → Nat) (h a1 a2 a3 a4 a5 a6 a7 : Nat) (cI cL cZ : ClassId) (cnt onc : Nat) (fp sp : Nat → Nat) (mo : Nat → Int64) (on : Nat → Bool) (lf : Nat → Int64) (sf : Nat → Int32) (rp : Nat → Nat) (rs : Nat) (rl : Int64) (sz : Nat) (hst : l.stackTraces = false) (g : tn_good cnt fp sp mo) (ok : tn_ok (tn_E cnt fp sp mo on)) (x : Int32) : vx_Met l yX0_earliest wsX0_earliest ({ frames := 6, cells := 1, slots := 6, locals := 81 }) (va_Pc [.ref h, .int x] (tn_PreX dC dI (tn_tys cI cL cZ) (tn_ws h a1 a2 a3 a4 a5 a6 a7 cI cL cZ cnt onc fp sp mo on lf sf rp rs rl) sz)) (va_Ql (S := tn_D) (fun r _ => ∃ a, a < 20 ∧ x = nI a ∧ sp_earl (tn_E cnt fp sp mo on) a r) (fun u t => tn_at dC dI (tn_tys cI cL cZ) (va_A (tn_ws h a1 a2 a3 a4 a5 a6 a7 cI cL cZ cnt onc fp sp mo on lf sf rp rs rl) sz) (tn_ws h a1 a2 a3 a4 a5 a6 a7 cI cL cZ cnt onc fp sp mo on u.1 u.2 rp rs rl) t) (va_A (tn_ws h a1 a2 a3 a4 a5 a6 a7 cI cL cZ cnt onc fp sp mo on lf sf rp rs rl) sz)) (vx_X (S := Unit) (fun _ => ∀ a, a < 20 → ¬ x = nI a) (fun E _ t => E = tn_NS ∧ tn_at dC dI (tn_tys cI cL cZ) (va_A (tn_ws h a1 a2 a3 a4 a5 a6 a7 cI cL cZ cnt onc fp sp mo on lf sf rp rs rl) sz) (tn_ws h a1 a2 a3 a4 a5 a6 a7 cI cL cZ cnt onc fp sp mo on lf sf rp rs rl) t) (va_A (tn_ws h a1 a2 a3 a4 a5 a6 a7 cI cL cZ cnt onc fp sp mo on lf sf rp rs rl) sz)) 1 6 (va_A (tn_ws h a1 a2 a3 a4 a5 a6 a7 cI cL cZ cnt onc fp sp mo on lf sf rp rs rl) sz) := by
  refine vx_ofW (cc := cX0_earliest) (maxL := 2) (ret := (some .long)) (by decide) rfl ?_
  intro p e s m args below meth c s₁ B hml hex hv
  obtain ⟨rfl, ⟨hsz, hP, hK, hD0⟩, hfc, hZs⟩ := hv
  have hx := B.exec
  have hb := B.bytes
  have hr := B.returns
  have hts := atoms_spec (ws := wsX0_earliest) B.pre
  have hown : s.vm.findClass RX0 = some m.cls := findClass_of_methodNamed B.named
  have hlocks := B.notSynchronized
  subst hsz
  have hD := hD0.self (sz := s.heap.size)
  generalize hAe : va_A (tn_ws h a1 a2 a3 a4 a5 a6 a7 cI cL cZ cnt onc fp sp mo on lf sf rp rs rl) s.heap.size = A at hD hZs ⊢
  have hA : ∀ q : Nat, s.heap.size ≤ q → A q := fun q h => by rw [← hAe]; exact Or.inr h
  have hS : va_S A s.heap s.heap [] := va_S.rf
  have hl := lv_entry ([.ref h, .int x]) (n := 2) (Nat.le_of_ble_eq_true rfl)
  rw [lg_entry_eq]
  generalize (lg_sl ([.ref h, .int x]) ++ List.replicate (2 - (lg_sl ([.ref h, .int x])).length) Slot.unset).toArray = ls at hl ⊢
  have hl : lv_has ls 2 [(0, .ref h), (1, .int x)] := hl
  have kf24 := hts (.fieldLink RX0 24 "TimeNet" "lengthFrom" "[J") (by decide +kernel)
  have kc75 := hts (.constantLong RX0 75 (9223372036854775807)) (by decide +kernel)
  have kc77 := hts (.constantLong RX0 77 (-9223372036854775808)) (by decide +kernel)
  have hin : ∀ w ∈ u_ws RX0 TX0 11, w ∈ wsX0_earliest := by decide +kernel
  have hc := g.1
  have hwcl : Cond.classLink RX0 54 "java/util/NoSuchElementException" ∈ wsX0_earliest := by decide +kernel
  have hwini : Cond.initialized "java/util/NoSuchElementException" ∈ wsX0_earliest := by decide +kernel
  have hwat : ∀ w ∈ tn_at0.filter goodWord, w ∈ wsX0_earliest := fun w h => List.mem_cons_of_mem _ (List.mem_append_right _ h)
  refine lv_iload_n hx hb dX0_earliest_0 rfl (lv_at hl 1 rfl) ?_
  have hF := tn_freeA hD hS hA
  refine va_calli (va_runS (As := [.int x]) (rest := []) ⟨hx, hb, hml, hown, hts⟩ (cX0_isPoint_ok l dC dI h a1 a2 a3 a4 a5 a6 a7 cI cL cZ cnt onc fp sp mo on lf sf rp rs rl s.heap.size x) (va_cwS 1 hts gX0_earliest_X0_isPoint rfl rfl rfl (by decide +kernel) ⟨Nat.le_of_ble_eq_true rfl, Nat.le_of_ble_eq_true rfl⟩) (tn_preS hK hP hD) rfl rfl hl.1 rfl (lv_room (Nat.le_of_ble_eq_true rfl)) dX0_earliest_1 ⟨Nat.le_of_ble_eq_true rfl, Nat.le_of_ble_eq_true rfl⟩) hS (fun q _ h => hF q h) hF (fun r_1 u_1 t H1 locs ht hvm hw_1 hB hz1 hk1 hS => ?_)
  obtain ⟨hP1, -, hD1⟩ := hB
  rw [ht] at hP1
  have hD := hD1.weaken (fun _ q _ hq => hF q.1 hq)
  clear hP hk1 hF hz1 ht hvm hD1
  generalize H1 = H at hP1 hS ⊢
  have hP := hP1
  clear hP1
  refine lv_if_ne (tgt := 15) hx hb dX0_earliest_4 (by decide) (fun c_4 => ?_) (fun c_4 => ?_)
  · skip
    obtain ⟨ja, hja, eja⟩ : ∃ j, j < 20 ∧ x = nI j := by
      rcases hw_1 with ⟨_, q⟩ | ⟨q, _⟩
      · exact q
      · exact absurd (q : r_1 = 0) c_4
    subst eja
    refine lv_aload_n hx hb dX0_earliest_15 rfl (lv_at hl 0 rfl) ?_
    refine lv_iconst (v := nI 0) hx hb dX0_earliest_16 (by decide) ?_
    have hF := tn_freeA hD hS hA
    refine va_callv (va_runV (As := [.int (nI 0)]) (rest := []) ⟨hx, hb, hml, hown, hts⟩ (cX0_measureTo_ok l dC dI h a1 a2 a3 a4 a5 a6 a7 cI cL cZ cnt onc fp sp mo on lf sf rp rs rl H.size g 0 (by omega)) (cwV 1 hts gX0_earliest_X0_measureTo rfl rfl rfl (by decide +kernel) ⟨Nat.le_of_ble_eq_true rfl, Nat.le_of_ble_eq_true rfl⟩) (tn_preV hK hP hD (ci := 0) rfl 0 rfl) rfl rfl hl.1 rfl (lv_room (Nat.le_of_ble_eq_true rfl)) dX0_earliest_17 ⟨Nat.le_of_ble_eq_true rfl, Nat.le_of_ble_eq_true rfl⟩) hS (fun q _ h => hF q h) hF (fun u_17 t H1 locs ht hvm hw_17 hB hz1 hk1 hS => ?_)
    obtain ⟨hP1, -, hD1⟩ := hB
    rw [ht] at hP1
    have hD := hD1.weaken (fun _ q _ hq => hF q.1 hq)
    clear hP hk1 hF hz1 ht hvm hD1
    generalize H1 = H at hP1 hS ⊢
    have hP := hP1
    clear hP1
    refine lv_aload_n hx hb dX0_earliest_20 rfl (lv_at hl 0 rfl) ?_
    refine va_get (D := (dC, dI)) (ci := 0) (v := .ref a5) (C := RX0) (T := TX0) (N := 11) hx hb hts hin hown hK hP 0 rfl rfl 6 (by decide) kf24 (fun _ h9 => h9) rfl dX0_earliest_21 ?_
    refine lv_iload_n hx hb dX0_earliest_24 rfl (lv_at hl 1 rfl) ?_
    refine tn_lald (i := ja) (v := u_17.1 ja) hx hb hK hP 5 1 rfl rfl (by omega) (by decide) rfl dX0_earliest_25 ?_
    refine lv_ldc2 (v := 9223372036854775807) hx hb hown kc75 dX0_earliest_26 ?_
    refine tn_lc_ne (x := (u_17.1 ja)) (y := 9223372036854775807) (tgt := 39) hx hb dX0_earliest_29 dX0_earliest_30 (by decide) (fun c_29 => ?_) (fun c_29 => ?_)
    · skip
      refine lv_aload_n hx hb dX0_earliest_39 rfl (lv_at hl 0 rfl) ?_
      refine va_get (D := (dC, dI)) (ci := 0) (v := .ref a5) (C := RX0) (T := TX0) (N := 11) hx hb hts hin hown hK hP 0 rfl rfl 6 (by decide) kf24 (fun _ h9 => h9) rfl dX0_earliest_40 ?_
      refine lv_iload_n hx hb dX0_earliest_43 rfl (lv_at hl 1 rfl) ?_
      refine tn_lald (i := ja) (v := u_17.1 ja) hx hb hK hP 5 1 rfl rfl (by omega) (by decide) rfl dX0_earliest_44 ?_
      refine lv_lneg hx hb dX0_earliest_45 ?_
      refine W.widen (k := 1) (n := 6) (by omega) (by omega) ?_
      exact vx_ret (W.lret (v := -(u_17.1 ja)) hx hb hr (fun t ht hW => ⟨⟨-(u_17.1 ja), (u_17.1, u_17.2), rfl, ⟨ja, hja, rfl, tn_earl_yes g (tn_ms_ok g ok (by omega) hw_17) hja c_29⟩, by rw [ht]; exact hP, va_K.moved hW.alike hK, hD⟩, hS.F ht⟩) hS.2.2 dX0_earliest_46)
    · skip
      refine lv_ldc2 (v := (-9223372036854775808)) hx hb hown kc77 dX0_earliest_33 ?_
      refine lv_goto (tgt := 46) hx hb dX0_earliest_36 (by decide) ?_
      refine W.widen (k := 1) (n := 6) (by omega) (by omega) ?_
      exact vx_ret (W.lret (v := (-9223372036854775808)) hx hb hr (fun t ht hW => ⟨⟨(-9223372036854775808), (u_17.1, u_17.2), rfl, ⟨ja, hja, rfl, tn_earl_no (tn_ms_ok g ok (by omega) hw_17) hja c_29⟩, by rw [ht]; exact hP, va_K.moved hW.alike hK, hD⟩, hS.F ht⟩) hS.2.2 dX0_earliest_46)
  · skip
    have hn_1 : ∀ j, j < 20 → x ≠ nI j := by
      rcases hw_1 with ⟨q, _⟩ | ⟨_, q⟩
      · exact absurd (q ▸ c_4 : nI 1 = 0) (by decide)
      · exact q
    exact vx_throw0 (cls := tn_NS) (names := ["java/lang/RuntimeException", "java/lang/Exception"]) (A := A) hx hb hst hown (by decide +kernel) (by decide +kernel) (hts (.classLink RX0 54 "java/util/NoSuchElementException") hwcl) (hts (.initialized "java/util/NoSuchElementException") hwini) (vx_hat (fun w h => hts w (hwat w h)) tn_at0_no hfc.use) tn_at0_good hZs.1 hZs.2 hS (hl.1.trans hml.symm) dX0_earliest_7 dX0_earliest_10 dX0_earliest_11 dX0_earliest_14 (fun x h => (hex x h).elim) (Nat.le_of_ble_eq_true rfl) (Nat.le_of_ble_eq_true rfl) (Nat.le_of_ble_eq_true rfl) (Nat.le_of_ble_eq_true rfl) hlocks (fun t hvm h1 h2 => tn_xc (fun a ha q => hn_1 a ha q) hK hP hD hS hvm h1 h2) hS.2.2 (Nat.le_of_ble_eq_true rfl) (Nat.le_of_ble_eq_true rfl)
