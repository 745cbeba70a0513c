theorem tm_noab {E : Nat → Nat → Int → Prop} {a b : Nat} (ha : a < 20) (hb : b < 20) (hno : ∀ n L, ¬ tn_wk E n a b L) : ∀ a2 b2, a2 < 20 → b2 < 20 → nI a = nI a2 → nI b = nI b2 → ∀ n L, ¬ tn_wk E n a2 b2 L := by
  intro a2 b2 h1 h2 h3 h4
  have e1 := (nI_eq (by omega) (by omega)).mp h3
  have e2 := (nI_eq (by omega) (by omega)).mp h4
  subst e1; subst e2
  exact hno
theorem tm_path_yes {E : Nat → Nat → Int → Prop} {a b n0 : Nat} (ha : a < 20) (hb : b < 20) (hn0 : n0 ≤ 19) {bl : Int64} (hbe : tn_best E a b bl.toInt n0) {rp : Nat → Nat} {rs : Nat} {rl : Int64} {f : Nat → Nat} {z : Nat} (hf : tn_bp E b n0 a f 0) (hz : z = 0 + 1 + n0) : sp_path E (nI a) (nI b) (nI z) rp rs rl f z bl :=
  Or.inl ⟨a, b, _, n0, ha, hb, rfl, rfl, hbe, hn0, by rw [hz, show 0 + 1 + n0 = n0 + 1 by omega], by omega, hf, rfl⟩
theorem tm_neg {E : Nat → Nat → Int → Prop} {a b n0 : Nat} (hE : ∀ i j c, E i j c → -1000000000000 ≤ c ∧ c ≤ 1000000000000) (hn0 : n0 ≤ 19) {bl : Int64} (hbe : tn_best E a b bl.toInt n0) : (-bl).toInt = -bl.toInt := by
  have bd := tn_wk_bd hE n0 hbe.1
  rw [Int64.toInt_neg]
  exact Int.bmod_eq_of_le (by omega) (by omega)
theorem tm_sub {E : Nat → Nat → Int → Prop} {a b n0 : Nat} (hE : ∀ i j c, E i j c → -1000000000000 ≤ c ∧ c ≤ 1000000000000) (hn0 : n0 ≤ 19) {bl x : Int64} (hbe : tn_best E a b bl.toInt n0) (h1 : -1000000000000 ≤ x.toInt) (h2 : x.toInt ≤ 1000000000000) : (x - bl).toInt = x.toInt - bl.toInt := by
  have bd := tn_wk_bd hE n0 hbe.1
  exact tn_subI (by omega) (by omega) (by omega) (by omega)
set_option maxHeartbeats 4000000 in
set_option maxRecDepth 100000 in
/-- steps(x, y) -/
theorem cX1_steps_ok (l : Launch) (dC : Nat → ClassId) (dI : Nat → Nat → Nat) (h b1 b2 b3 b4 b5 b6 : Nat) (cI cL cZ : ClassId) (th cnt : Nat) (fp sp : Nat → Nat) (mo : Nat → Int64) (on : Nat → Bool) (rs : Nat) (rw : Nat → Nat) (rl : Int64) (le : Nat → Int64) (bl : Int64) (bs : Int32) (sz : Nat) (g : tn_good cnt fp sp mo) (ok : tn_ok (tn_E cnt fp sp mo on)) (x y : Int32) : Met l yX1_steps wsX1_steps ({ frames := 1, cells := 0, slots := 0, locals := 26 }) (va_Pc [.ref h, .int x, .int y] (tn_Pre dC dI (tn_tys cI cL cZ) (tm_ws h b1 b2 b3 b4 b5 b6 cI cL cZ th cnt fp sp mo on rs rw rl le bl bs) sz)) (va_Qi (S := (Nat → Int64) × Int64 × Int32) (fun r _ => sp_steps (tn_E cnt fp sp mo on) x y r) (fun u t => tn_at dC dI (tn_tys cI cL cZ) (va_A (tm_ws h b1 b2 b3 b4 b5 b6 cI cL cZ th cnt fp sp mo on rs rw rl le bl bs) sz) (tm_ws h b1 b2 b3 b4 b5 b6 cI cL cZ 0 cnt fp sp mo on rs rw rl u.1 u.2.1 u.2.2) t) (va_A (tm_ws h b1 b2 b3 b4 b5 b6 cI cL cZ th cnt fp sp mo on rs rw rl le bl bs) sz)) 0 0 (va_A (tm_ws h b1 b2 b3 b4 b5 b6 cI cL cZ th cnt fp sp mo on rs rw rl le bl bs) sz) := by
  refine Met.ofW (cc := cX1_steps) (maxL := 3) (ret := (some .int)) (by decide) rfl ?_
  intro p e s m args below meth c s₁ B hml hv
  obtain ⟨rfl, hsz, hP, hK, hD0⟩ := hv
  have hx := B.exec
  have hb := B.bytes
  have hr := B.returns
  have hts := atoms_spec (ws := wsX1_steps) B.pre
  have hown : s.vm.findClass RX1 = some m.cls := findClass_of_methodNamed B.named
  have hlocks := B.notSynchronized
  subst hsz
  have hD := hD0.self (sz := s.heap.size)
  generalize hAe : va_A (tm_ws h b1 b2 b3 b4 b5 b6 cI cL cZ th cnt fp sp mo on rs rw rl le bl bs) s.heap.size = A at hD ⊢
  have hA : ∀ q : Nat, s.heap.size ≤ q → A q := fun q h => by rw [← hAe]; exact Or.inr h
  have hS : va_S A s.heap s.heap [] := va_S.rf
  have hl := lv_entry ([.ref h, .int x, .int y]) (n := 3) (Nat.le_of_ble_eq_true rfl)
  rw [lg_entry_eq]
  generalize (lg_sl ([.ref h, .int x, .int y]) ++ List.replicate (3 - (lg_sl ([.ref h, .int x, .int y])).length) Slot.unset).toArray = ls at hl ⊢
  have hl : lv_has ls 3 [(0, .ref h), (1, .int x), (2, .int y)] := hl
  have kf30 := hts (.fieldLink RX1 30 "TimeNetModel" "thrown" "I") (by decide +kernel)
  have kf39 := hts (.fieldLink RX1 39 "TimeNetModel" "bestSteps" "I") (by decide +kernel)
  have hin : ∀ w ∈ u_ws RX1 TX1 12, w ∈ wsX1_steps := by decide +kernel
  have hc := g.1
  refine lv_aload_n hx hb dX1_steps_0 rfl (lv_at hl 0 rfl) ?_
  refine lv_iconst (v := nI 0) hx hb dX1_steps_1 (by decide) ?_
  refine va_put (D := (dC, dI)) (ci := 1) (v := .int (nI 0)) (ty := .int) (C := RX1) (T := TX1) (N := 12) hx hb hts hin tyX1 tyX1_ok nmX1 hown hK hP hD hS 0 rfl rfl 0 (by decide) kf30 (fun _ h9 => h9) rfl (by decide +kernel) rfl rfl (Nat.le_of_ble_eq_true rfl) dX1_steps_2 (fun H locs hP hD hS => ?_)
  have hP : va_P (dC, dI) vwCl (tm_ws h b1 b2 b3 b4 b5 b6 cI cL cZ 0 cnt fp sp mo on rs rw rl le bl bs) H := hP
  have hD : va_D A (tm_ws h b1 b2 b3 b4 b5 b6 cI cL cZ 0 cnt fp sp mo on rs rw rl le bl bs) := hD
  refine lv_iload_n hx hb dX1_steps_5 rfl (lv_at hl 1 rfl) ?_
  have hF := tn_freeA hD hS hA
  refine va_calli (va_runS (As := [.int x]) (rest := []) ⟨hx, hb, hml, hown, hts⟩ (cX1_isPoint_ok l dC dI h b1 b2 b3 b4 b5 b6 cI cL cZ 0 cnt fp sp mo on rs rw rl le bl bs H.size x) (va_cwS 1 hts gX1_steps_X1_isPoint rfl rfl rfl (by decide +kernel) ⟨Nat.le_of_ble_eq_true rfl, Nat.le_of_ble_eq_true rfl⟩) (tn_preS hK hP hD) rfl rfl hl.1 rfl (lv_room (Nat.le_of_ble_eq_true rfl)) dX1_steps_6 ⟨Nat.le_of_ble_eq_true rfl, Nat.le_of_ble_eq_true rfl⟩) hS (fun q _ h => hF q h) hF (fun r_6 u_6 t H1 locs ht hvm hw_6 hB hz1 hk1 hS => ?_)
  obtain ⟨hP1, -, hD1⟩ := hB
  rw [ht] at hP1
  have hD := hD1.weaken (fun _ q _ hq => hF q.1 hq)
  clear hP hk1 hF hz1 ht hvm hD1
  generalize H1 = H at hP1 hS ⊢
  have hP := hP1
  clear hP1
  refine lv_if_eq (tgt := 35) hx hb dX1_steps_9 (by decide) (fun c_9 => ?_) (fun c_9 => ?_)
  · skip
    have hn_6 : ∀ j, j < 20 → x ≠ nI j := by
      rcases hw_6 with ⟨q, _⟩ | ⟨_, q⟩
      · exact absurd (q ▸ c_9 : nI 1 = 0) (by decide)
      · exact q
    refine lv_iconst (v := (-1)) hx hb dX1_steps_35 (by decide) ?_
    exact W.iret (v := (-1)) hx hb hr (fun t ht hW => ⟨⟨(-1), (le, bl, bs), rfl, Or.inr ⟨(fun a b h1 h2 h3 h4 => absurd h3 (hn_6 a h1)), rfl⟩, by rw [ht]; exact hP, va_K.moved hW.alike hK, hD⟩, hS.F ht⟩) hS.2.2 dX1_steps_36
  · skip
    obtain ⟨a, ha, ea⟩ : ∃ j, j < 20 ∧ x = nI j := by
      rcases hw_6 with ⟨_, q⟩ | ⟨q, _⟩
      · exact q
      · exact absurd (q : r_6 = 0) c_9
    subst ea
    refine lv_iload_n hx hb dX1_steps_12 rfl (lv_at hl 2 rfl) ?_
    have hF := tn_freeA hD hS hA
    refine va_calli (va_runS (As := [.int y]) (rest := []) ⟨hx, hb, hml, hown, hts⟩ (cX1_isPoint_ok l dC dI h b1 b2 b3 b4 b5 b6 cI cL cZ 0 cnt fp sp mo on rs rw rl le bl bs H.size y) (va_cwS 1 hts gX1_steps_X1_isPoint rfl rfl rfl (by decide +kernel) ⟨Nat.le_of_ble_eq_true rfl, Nat.le_of_ble_eq_true rfl⟩) (tn_preS hK hP hD) rfl rfl hl.1 rfl (lv_room (Nat.le_of_ble_eq_true rfl)) dX1_steps_13 ⟨Nat.le_of_ble_eq_true rfl, Nat.le_of_ble_eq_true rfl⟩) hS (fun q _ h => hF q h) hF (fun r_13 u_13 t H1 locs ht hvm hw_13 hB hz1 hk1 hS => ?_)
    obtain ⟨hP1, -, hD1⟩ := hB
    rw [ht] at hP1
    have hD := hD1.weaken (fun _ q _ hq => hF q.1 hq)
    clear hP hk1 hF hz1 ht hvm hD1
    generalize H1 = H at hP1 hS ⊢
    have hP := hP1
    clear hP1
    refine lv_if_eq (tgt := 35) hx hb dX1_steps_16 (by decide) (fun c_16 => ?_) (fun c_16 => ?_)
    · skip
      have hn_13 : ∀ j, j < 20 → y ≠ nI j := by
        rcases hw_13 with ⟨q, _⟩ | ⟨_, q⟩
        · exact absurd (q ▸ c_16 : nI 1 = 0) (by decide)
        · exact q
      refine lv_iconst (v := (-1)) hx hb dX1_steps_35 (by decide) ?_
      exact W.iret (v := (-1)) hx hb hr (fun t ht hW => ⟨⟨(-1), (le, bl, bs), rfl, Or.inr ⟨(fun a2 b h1 h2 h3 h4 => absurd h4 (hn_13 b h2)), rfl⟩, by rw [ht]; exact hP, va_K.moved hW.alike hK, hD⟩, hS.F ht⟩) hS.2.2 dX1_steps_36
    · skip
      obtain ⟨b, hb2, eb⟩ : ∃ j, j < 20 ∧ y = nI j := by
        rcases hw_13 with ⟨_, q⟩ | ⟨q, _⟩
        · exact q
        · exact absurd (q : r_13 = 0) c_16
      subst eb
      refine lv_aload_n hx hb dX1_steps_19 rfl (lv_at hl 0 rfl) ?_
      refine lv_iload_n hx hb dX1_steps_20 rfl (lv_at hl 1 rfl) ?_
      refine lv_iload_n hx hb dX1_steps_21 rfl (lv_at hl 2 rfl) ?_
      have hF := tn_freeA hD hS hA
      refine va_calli (va_runV (As := [.int (nI a), .int (nI b)]) (rest := []) ⟨hx, hb, hml, hown, hts⟩ (cX1_best_ok l dC dI h b1 b2 b3 b4 b5 b6 cI cL cZ 0 cnt fp sp mo on rs rw rl le bl bs H.size g ok a ha b hb2) (cwV 2 hts gX1_steps_X1_best rfl rfl rfl (by decide +kernel) ⟨Nat.le_of_ble_eq_true rfl, Nat.le_of_ble_eq_true rfl⟩) (tn_preV hK hP hD (ci := 1) rfl 0 rfl) rfl rfl hl.1 rfl (lv_room (Nat.le_of_ble_eq_true rfl)) dX1_steps_22 ⟨Nat.le_of_ble_eq_true rfl, Nat.le_of_ble_eq_true rfl⟩) hS (fun q _ h => hF q h) hF (fun r_22 u_22 t H1 locs ht hvm hw_22 hB hz1 hk1 hS => ?_)
      obtain ⟨hP1, -, hD1⟩ := hB
      rw [ht] at hP1
      have hD := hD1.weaken (fun _ q _ hq => hF q.1 hq)
      clear hP hk1 hF hz1 ht hvm hD1
      generalize H1 = H at hP1 hS ⊢
      have hP := hP1
      clear hP1
      refine lv_if_eq (tgt := 35) hx hb dX1_steps_25 (by decide) (fun c_25 => ?_) (fun c_25 => ?_)
      · skip
        have hz : r_22 = nI 0 := c_25
        have hno : ∀ n L, ¬ tn_wk (tn_E cnt fp sp mo on) n a b L := by
          rcases hw_22.2 with ⟨_, _, _, q⟩ | ⟨q, _⟩
          · exact q
          · exact absurd (q.symm.trans hz) (by decide)
        refine lv_iconst (v := (-1)) hx hb dX1_steps_35 (by decide) ?_
        exact W.iret (v := (-1)) hx hb hr (fun t ht hW => ⟨⟨(-1), (u_22.1, u_22.2.1, u_22.2.2), rfl, Or.inr ⟨tm_noab ha hb2 hno, rfl⟩, by rw [ht]; exact hP, va_K.moved hW.alike hK, hD⟩, hS.F ht⟩) hS.2.2 dX1_steps_36
      · skip
        have hz : r_22 = nI 1 := by
          rcases hw_22.2 with ⟨q, _⟩ | ⟨q, _⟩
          · exact absurd (q : r_22 = 0) c_25
          · exact q
        obtain ⟨n0, hn0, hbs, hbl, hbx, hbe⟩ : ∃ n, n ≤ 19 ∧ u_22.2.2 = nI n ∧ u_22.2.1 = u_22.1 (20 * n + a) ∧ u_22.2.1 ≠ tn_MX ∧ tn_best (tn_E cnt fp sp mo on) a b u_22.2.1.toInt n := by
          rcases hw_22.2 with ⟨q, _⟩ | ⟨_, q⟩
          · exact absurd (q : r_22 = 0) c_25
          · exact q
        refine lv_aload_n hx hb dX1_steps_28 rfl (lv_at hl 0 rfl) ?_
        refine va_get (D := (dC, dI)) (ci := 1) (v := .int u_22.2.2) (C := RX1) (T := TX1) (N := 12) hx hb hts hin hown hK hP 0 rfl rfl 11 (by decide) kf39 (fun _ h9 => h9) rfl dX1_steps_29 ?_
        refine lv_goto (tgt := 36) hx hb dX1_steps_32 (by decide) ?_
        exact W.iret (v := u_22.2.2) hx hb hr (fun t ht hW => ⟨⟨u_22.2.2, (u_22.1, u_22.2.1, u_22.2.2), rfl, Or.inl ⟨a, b, _, n0, ha, hb2, rfl, rfl, hbe, hbs⟩, by rw [ht]; exact hP, va_K.moved hW.alike hK, hD⟩, hS.F ht⟩) hS.2.2 dX1_steps_36
set_option maxHeartbeats 4000000 in
set_option maxRecDepth 100000 in
/-- path(x, y) -/
theorem cX1_path_ok (l : Launch) (dC : Nat → ClassId) (dI : Nat → Nat → Nat) (h b1 b2 b3 b4 b5 b6 : Nat) (cI cL cZ : ClassId) (th cnt : Nat) (fp sp : Nat → Nat) (mo : Nat → Int64) (on : Nat → Bool) (rs : Nat) (rw : Nat → Nat) (rl : Int64) (le : Nat → Int64) (bl : Int64) (bs : Int32) (sz : Nat) (g : tn_good cnt fp sp mo) (ok : tn_ok (tn_E cnt fp sp mo on)) (x y : Int32) : Met l yX1_path wsX1_path ({ frames := 2, cells := 0, slots := 0, locals := 49 }) (va_Pc [.ref h, .int x, .int y] (tn_Pre dC dI (tn_tys cI cL cZ) (tm_ws h b1 b2 b3 b4 b5 b6 cI cL cZ th cnt fp sp mo on rs rw rl le bl bs) sz)) (va_Qi (S := ((Nat → Int64) × Int64 × Int32) × (Nat → Nat) × Nat × Int64) (fun r u => sp_path (tn_E cnt fp sp mo on) x y r rw rs rl u.2.1 u.2.2.1 u.2.2.2) (fun u t => tn_at dC dI (tn_tys cI cL cZ) (va_A (tm_ws h b1 b2 b3 b4 b5 b6 cI cL cZ th cnt fp sp mo on rs rw rl le bl bs) sz) (tm_ws h b1 b2 b3 b4 b5 b6 cI cL cZ 0 cnt fp sp mo on u.2.2.1 u.2.1 u.2.2.2 u.1.1 u.1.2.1 u.1.2.2) t) (va_A (tm_ws h b1 b2 b3 b4 b5 b6 cI cL cZ th cnt fp sp mo on rs rw rl le bl bs) sz)) 0 0 (va_A (tm_ws h b1 b2 b3 b4 b5 b6 cI cL cZ th cnt fp sp mo on rs rw rl le bl bs) sz) := by
  refine Met.ofW (cc := cX1_path) (maxL := 3) (ret := (some .int)) (by decide) rfl ?_
  intro p e s m args below meth c s₁ B hml hv
  obtain ⟨rfl, hsz, hP, hK, hD0⟩ := hv
  have hx := B.exec
  have hb := B.bytes
  have hr := B.returns
  have hts := atoms_spec (ws := wsX1_path) B.pre
  have hown : s.vm.findClass RX1 = some m.cls := findClass_of_methodNamed B.named
  have hlocks := B.notSynchronized
  subst hsz
  have hD := hD0.self (sz := s.heap.size)
  generalize hAe : va_A (tm_ws h b1 b2 b3 b4 b5 b6 cI cL cZ th cnt fp sp mo on rs rw rl le bl bs) s.heap.size = A at hD ⊢
  have hA : ∀ q : Nat, s.heap.size ≤ q → A q := fun q h => by rw [← hAe]; exact Or.inr h
  have hS : va_S A s.heap s.heap [] := va_S.rf
  have hl := lv_entry ([.ref h, .int x, .int y]) (n := 3) (Nat.le_of_ble_eq_true rfl)
  rw [lg_entry_eq]
  generalize (lg_sl ([.ref h, .int x, .int y]) ++ List.replicate (3 - (lg_sl ([.ref h, .int x, .int y])).length) Slot.unset).toArray = ls at hl ⊢
  have hl : lv_has ls 3 [(0, .ref h), (1, .int x), (2, .int y)] := hl
  have kf30 := hts (.fieldLink RX1 30 "TimeNetModel" "thrown" "I") (by decide +kernel)
  have kf24 := hts (.fieldLink RX1 24 "TimeNetModel" "row" "[I") (by decide +kernel)
  have kf50 := hts (.fieldLink RX1 50 "TimeNetModel" "rowSize" "I") (by decide +kernel)
  have kf42 := hts (.fieldLink RX1 42 "TimeNetModel" "bestLength" "J") (by decide +kernel)
  have kf61 := hts (.fieldLink RX1 61 "TimeNetModel" "rowLength" "J") (by decide +kernel)
  have hin : ∀ w ∈ u_ws RX1 TX1 12, w ∈ wsX1_path := by decide +kernel
  have hc := g.1
  refine lv_aload_n hx hb dX1_path_0 rfl (lv_at hl 0 rfl) ?_
  refine lv_iconst (v := nI 0) hx hb dX1_path_1 (by decide) ?_
  refine va_put (D := (dC, dI)) (ci := 1) (v := .int (nI 0)) (ty := .int) (C := RX1) (T := TX1) (N := 12) hx hb hts hin tyX1 tyX1_ok nmX1 hown hK hP hD hS 0 rfl rfl 0 (by decide) kf30 (fun _ h9 => h9) rfl (by decide +kernel) rfl rfl (Nat.le_of_ble_eq_true rfl) dX1_path_2 (fun H locs hP hD hS => ?_)
  have hP : va_P (dC, dI) vwCl (tm_ws h b1 b2 b3 b4 b5 b6 cI cL cZ 0 cnt fp sp mo on rs rw rl le bl bs) H := hP
  have hD : va_D A (tm_ws h b1 b2 b3 b4 b5 b6 cI cL cZ 0 cnt fp sp mo on rs rw rl le bl bs) := hD
  refine lv_iload_n hx hb dX1_path_5 rfl (lv_at hl 1 rfl) ?_
  have hF := tn_freeA hD hS hA
  refine va_calli (va_runS (As := [.int x]) (rest := []) ⟨hx, hb, hml, hown, hts⟩ (cX1_isPoint_ok l dC dI h b1 b2 b3 b4 b5 b6 cI cL cZ 0 cnt fp sp mo on rs rw rl le bl bs H.size x) (va_cwS 1 hts gX1_path_X1_isPoint rfl rfl rfl (by decide +kernel) ⟨Nat.le_of_ble_eq_true rfl, Nat.le_of_ble_eq_true rfl⟩) (tn_preS hK hP hD) rfl rfl hl.1 rfl (lv_room (Nat.le_of_ble_eq_true rfl)) dX1_path_6 ⟨Nat.le_of_ble_eq_true rfl, Nat.le_of_ble_eq_true rfl⟩) hS (fun q _ h => hF q h) hF (fun r_6 u_6 t H1 locs ht hvm hw_6 hB hz1 hk1 hS => ?_)
  obtain ⟨hP1, -, hD1⟩ := hB
  rw [ht] at hP1
  have hD := hD1.weaken (fun _ q _ hq => hF q.1 hq)
  clear hP hk1 hF hz1 ht hvm hD1
  generalize H1 = H at hP1 hS ⊢
  have hP := hP1
  clear hP1
  refine lv_if_eq (tgt := 28) hx hb dX1_path_9 (by decide) (fun c_9 => ?_) (fun c_9 => ?_)
  · skip
    have hn_6 : ∀ j, j < 20 → x ≠ nI j := by
      rcases hw_6 with ⟨q, _⟩ | ⟨_, q⟩
      · exact absurd (q ▸ c_9 : nI 1 = 0) (by decide)
      · exact q
    refine lv_iconst (v := (-1)) hx hb dX1_path_28 (by decide) ?_
    exact W.iret (v := (-1)) hx hb hr (fun t ht hW => ⟨⟨(-1), ((le, bl, bs), rw, rs, rl), rfl, Or.inr ⟨(fun a b h1 h2 h3 h4 => absurd h3 (hn_6 a h1)), rfl, rfl, rfl, rfl⟩, by rw [ht]; exact hP, va_K.moved hW.alike hK, hD⟩, hS.F ht⟩) hS.2.2 dX1_path_29
  · skip
    obtain ⟨a, ha, ea⟩ : ∃ j, j < 20 ∧ x = nI j := by
      rcases hw_6 with ⟨_, q⟩ | ⟨q, _⟩
      · exact q
      · exact absurd (q : r_6 = 0) c_9
    subst ea
    refine lv_iload_n hx hb dX1_path_12 rfl (lv_at hl 2 rfl) ?_
    have hF := tn_freeA hD hS hA
    refine va_calli (va_runS (As := [.int y]) (rest := []) ⟨hx, hb, hml, hown, hts⟩ (cX1_isPoint_ok l dC dI h b1 b2 b3 b4 b5 b6 cI cL cZ 0 cnt fp sp mo on rs rw rl le bl bs H.size y) (va_cwS 1 hts gX1_path_X1_isPoint rfl rfl rfl (by decide +kernel) ⟨Nat.le_of_ble_eq_true rfl, Nat.le_of_ble_eq_true rfl⟩) (tn_preS hK hP hD) rfl rfl hl.1 rfl (lv_room (Nat.le_of_ble_eq_true rfl)) dX1_path_13 ⟨Nat.le_of_ble_eq_true rfl, Nat.le_of_ble_eq_true rfl⟩) hS (fun q _ h => hF q h) hF (fun r_13 u_13 t H1 locs ht hvm hw_13 hB hz1 hk1 hS => ?_)
    obtain ⟨hP1, -, hD1⟩ := hB
    rw [ht] at hP1
    have hD := hD1.weaken (fun _ q _ hq => hF q.1 hq)
    clear hP hk1 hF hz1 ht hvm hD1
    generalize H1 = H at hP1 hS ⊢
    have hP := hP1
    clear hP1
    refine lv_if_eq (tgt := 28) hx hb dX1_path_16 (by decide) (fun c_16 => ?_) (fun c_16 => ?_)
    · skip
      have hn_13 : ∀ j, j < 20 → y ≠ nI j := by
        rcases hw_13 with ⟨q, _⟩ | ⟨_, q⟩
        · exact absurd (q ▸ c_16 : nI 1 = 0) (by decide)
        · exact q
      refine lv_iconst (v := (-1)) hx hb dX1_path_28 (by decide) ?_
      exact W.iret (v := (-1)) hx hb hr (fun t ht hW => ⟨⟨(-1), ((le, bl, bs), rw, rs, rl), rfl, Or.inr ⟨(fun a2 b h1 h2 h3 h4 => absurd h4 (hn_13 b h2)), rfl, rfl, rfl, rfl⟩, by rw [ht]; exact hP, va_K.moved hW.alike hK, hD⟩, hS.F ht⟩) hS.2.2 dX1_path_29
    · skip
      obtain ⟨b, hb2, eb⟩ : ∃ j, j < 20 ∧ y = nI j := by
        rcases hw_13 with ⟨_, q⟩ | ⟨q, _⟩
        · exact q
        · exact absurd (q : r_13 = 0) c_16
      subst eb
      refine lv_aload_n hx hb dX1_path_19 rfl (lv_at hl 0 rfl) ?_
      refine lv_iload_n hx hb dX1_path_20 rfl (lv_at hl 1 rfl) ?_
      refine lv_iload_n hx hb dX1_path_21 rfl (lv_at hl 2 rfl) ?_
      have hF := tn_freeA hD hS hA
      refine va_calli (va_runV (As := [.int (nI a), .int (nI b)]) (rest := []) ⟨hx, hb, hml, hown, hts⟩ (cX1_best_ok l dC dI h b1 b2 b3 b4 b5 b6 cI cL cZ 0 cnt fp sp mo on rs rw rl le bl bs H.size g ok a ha b hb2) (cwV 2 hts gX1_path_X1_best rfl rfl rfl (by decide +kernel) ⟨Nat.le_of_ble_eq_true rfl, Nat.le_of_ble_eq_true rfl⟩) (tn_preV hK hP hD (ci := 1) rfl 0 rfl) rfl rfl hl.1 rfl (lv_room (Nat.le_of_ble_eq_true rfl)) dX1_path_22 ⟨Nat.le_of_ble_eq_true rfl, Nat.le_of_ble_eq_true rfl⟩) hS (fun q _ h => hF q h) hF (fun r_22 u_22 t H1 locs ht hvm hw_22 hB hz1 hk1 hS => ?_)
      obtain ⟨hP1, -, hD1⟩ := hB
      rw [ht] at hP1
      have hD := hD1.weaken (fun _ q _ hq => hF q.1 hq)
      clear hP hk1 hF hz1 ht hvm hD1
      generalize H1 = H at hP1 hS ⊢
      have hP := hP1
      clear hP1
      refine lv_if_ne (tgt := 30) hx hb dX1_path_25 (by decide) (fun c_25 => ?_) (fun c_25 => ?_)
      · skip
        have hz : r_22 = nI 1 := by
          rcases hw_22.2 with ⟨q, _⟩ | ⟨q, _⟩
          · exact absurd (q : r_22 = 0) c_25
          · exact q
        obtain ⟨n0, hn0, hbs, hbl, hbx, hbe⟩ : ∃ n, n ≤ 19 ∧ u_22.2.2 = nI n ∧ u_22.2.1 = u_22.1 (20 * n + a) ∧ u_22.2.1 ≠ tn_MX ∧ tn_best (tn_E cnt fp sp mo on) a b u_22.2.1.toInt n := by
          rcases hw_22.2 with ⟨q, _⟩ | ⟨_, q⟩
          · exact absurd (q : r_22 = 0) c_25
          · exact q
        refine lv_aload_n hx hb dX1_path_30 rfl (lv_at hl 0 rfl) ?_
        refine va_get (D := (dC, dI)) (ci := 1) (v := .ref b5) (C := RX1) (T := TX1) (N := 12) hx hb hts hin hown hK hP 0 rfl rfl 7 (by decide) kf24 (fun _ h9 => h9) rfl dX1_path_31 ?_
        refine lv_iconst (v := nI 0) hx hb dX1_path_34 (by decide) ?_
        refine lv_iload_n hx hb dX1_path_35 rfl (lv_at hl 1 rfl) ?_
        refine tn_iast (i := 0) (f' := (fun zz => nI (va_up rw 0 a zz))) hx hb hK hP hD hS 5 0 rfl rfl (by omega) (by decide) (tn_updN rw 0 a) dX1_path_36 (fun H locs hP hD hS => ?_)
        have hP : va_P (dC, dI) vwCl (tm_ws h b1 b2 b3 b4 b5 b6 cI cL cZ 0 cnt fp sp mo on rs (va_up rw 0 a) rl u_22.1 u_22.2.1 u_22.2.2) H := hP
        have hD : va_D A (tm_ws h b1 b2 b3 b4 b5 b6 cI cL cZ 0 cnt fp sp mo on rs (va_up rw 0 a) rl u_22.1 u_22.2.1 u_22.2.2) := hD
        refine lv_aload_n hx hb dX1_path_37 rfl (lv_at hl 0 rfl) ?_
        refine lv_iconst (v := nI 1) hx hb dX1_path_38 (by decide) ?_
        refine va_put (D := (dC, dI)) (ci := 1) (v := .int (nI 1)) (ty := .int) (C := RX1) (T := TX1) (N := 12) hx hb hts hin tyX1 tyX1_ok nmX1 hown hK hP hD hS 0 rfl rfl 6 (by decide) kf50 (fun _ h9 => h9) rfl (by decide +kernel) rfl rfl (Nat.le_of_ble_eq_true rfl) dX1_path_39 (fun H locs hP hD hS => ?_)
        have hP : va_P (dC, dI) vwCl (tm_ws h b1 b2 b3 b4 b5 b6 cI cL cZ 0 cnt fp sp mo on 1 (va_up rw 0 a) rl u_22.1 u_22.2.1 u_22.2.2) H := hP
        have hD : va_D A (tm_ws h b1 b2 b3 b4 b5 b6 cI cL cZ 0 cnt fp sp mo on 1 (va_up rw 0 a) rl u_22.1 u_22.2.1 u_22.2.2) := hD
        refine lv_aload_n hx hb dX1_path_42 rfl (lv_at hl 0 rfl) ?_
        refine lv_iload_n hx hb dX1_path_43 rfl (lv_at hl 1 rfl) ?_
        have hF := tn_freeA hD hS hA
        refine va_callv (va_runV (As := [.int (nI a)]) (rest := []) ⟨hx, hb, hml, hown, hts⟩ (cX1_walk_ok l dC dI h b1 b2 b3 b4 b5 b6 cI cL cZ 0 cnt fp sp mo on 1 (va_up rw 0 a) rl u_22.1 u_22.2.1 u_22.2.2 H.size g a ha b 0 n0 rfl (by simp [va_up]) hn0 hbs hw_22.1 (hbl ▸ hbx) (hbl ▸ hbe) (by omega)) (cwV 1 hts gX1_path_X1_walk rfl rfl rfl (by decide +kernel) ⟨Nat.le_of_ble_eq_true rfl, Nat.le_of_ble_eq_true rfl⟩) (tn_preV hK hP hD (ci := 1) rfl 0 rfl) rfl rfl hl.1 rfl (lv_room (Nat.le_of_ble_eq_true rfl)) dX1_path_44 ⟨Nat.le_of_ble_eq_true rfl, Nat.le_of_ble_eq_true rfl⟩) hS (fun q _ h => hF q h) hF (fun u_44 t H1 locs ht hvm hw_44 hB hz1 hk1 hS => ?_)
        obtain ⟨hP1, -, hD1⟩ := hB
        rw [ht] at hP1
        have hD := hD1.weaken (fun _ q _ hq => hF q.1 hq)
        clear hP hk1 hF hz1 ht hvm hD1
        generalize H1 = H at hP1 hS ⊢
        have hP := hP1
        clear hP1
        refine lv_aload_n hx hb dX1_path_47 rfl (lv_at hl 0 rfl) ?_
        refine lv_aload_n hx hb dX1_path_48 rfl (lv_at hl 0 rfl) ?_
        refine va_get (D := (dC, dI)) (ci := 1) (v := .long u_22.2.1) (C := RX1) (T := TX1) (N := 12) hx hb hts hin hown hK hP 0 rfl rfl 10 (by decide) kf42 (fun _ h9 => h9) rfl dX1_path_49 ?_
        refine va_put (D := (dC, dI)) (ci := 1) (v := .long u_22.2.1) (ty := .long) (C := RX1) (T := TX1) (N := 12) hx hb hts hin tyX1 tyX1_ok nmX1 hown hK hP hD hS 0 rfl rfl 8 (by decide) kf61 (fun _ h9 => h9) rfl (by decide +kernel) rfl rfl (Nat.le_of_ble_eq_true rfl) dX1_path_52 (fun H locs hP hD hS => ?_)
        have hP : va_P (dC, dI) vwCl (tm_ws h b1 b2 b3 b4 b5 b6 cI cL cZ 0 cnt fp sp mo on u_44.2 u_44.1 u_22.2.1 u_22.1 u_22.2.1 u_22.2.2) H := hP
        have hD : va_D A (tm_ws h b1 b2 b3 b4 b5 b6 cI cL cZ 0 cnt fp sp mo on u_44.2 u_44.1 u_22.2.1 u_22.1 u_22.2.1 u_22.2.2) := hD
        refine lv_aload_n hx hb dX1_path_55 rfl (lv_at hl 0 rfl) ?_
        refine va_get (D := (dC, dI)) (ci := 1) (v := .int (nI u_44.2)) (C := RX1) (T := TX1) (N := 12) hx hb hts hin hown hK hP 0 rfl rfl 6 (by decide) kf50 (fun _ h9 => h9) rfl dX1_path_56 ?_
        exact W.iret (v := nI u_44.2) hx hb hr (fun t ht hW => ⟨⟨nI u_44.2, ((u_22.1, u_22.2.1, u_22.2.2), u_44.1, u_44.2, u_22.2.1), rfl, tm_path_yes ha hb2 hn0 hbe hw_44.1 hw_44.2.1, by rw [ht]; exact hP, va_K.moved hW.alike hK, hD⟩, hS.F ht⟩) hS.2.2 dX1_path_59
      · skip
        have hz : r_22 = nI 0 := c_25
        have hno : ∀ n L, ¬ tn_wk (tn_E cnt fp sp mo on) n a b L := by
          rcases hw_22.2 with ⟨_, _, _, q⟩ | ⟨q, _⟩
          · exact q
          · exact absurd (q.symm.trans hz) (by decide)
        refine lv_iconst (v := (-1)) hx hb dX1_path_28 (by decide) ?_
        exact W.iret (v := (-1)) hx hb hr (fun t ht hW => ⟨⟨(-1), ((u_22.1, u_22.2.1, u_22.2.2), rw, rs, rl), rfl, Or.inr ⟨tm_noab ha hb2 hno, rfl, rfl, rfl, rfl⟩, by rw [ht]; exact hP, va_K.moved hW.alike hK, hD⟩, hS.F ht⟩) hS.2.2 dX1_path_29
set_option maxHeartbeats 4000000 in
set_option maxRecDepth 100000 in
/-- bound(x, y) -/
theorem cX1_bound_ok (l : Launch) (dC : Nat → ClassId) (dI : Nat → Nat → Nat) (h b1 b2 b3 b4 b5 b6 : Nat) (cI cL cZ : ClassId) (th cnt : Nat) (fp sp : Nat → Nat) (mo : Nat → Int64) (on : Nat → Bool) (rs : Nat) (rw : Nat → Nat) (rl : Int64) (le : Nat → Int64) (bl : Int64) (bs : Int32) (sz : Nat) (g : tn_good cnt fp sp mo) (ok : tn_ok (tn_E cnt fp sp mo on)) (x y : Int32) : Met l yX1_bound wsX1_bound ({ frames := 1, cells := 0, slots := 0, locals := 26 }) (va_Pc [.ref h, .int x, .int y] (tn_Pre dC dI (tn_tys cI cL cZ) (tm_ws h b1 b2 b3 b4 b5 b6 cI cL cZ th cnt fp sp mo on rs rw rl le bl bs) sz)) (va_Ql (S := Nat × (Nat → Int64) × Int64 × Int32) (fun r u => (∃ a b, a < 20 ∧ b < 20 ∧ x = nI a ∧ y = nI b ∧ u.1 = 0 ∧ sp_bound (tn_E cnt fp sp mo on) a b r) ∨ ((∀ a b, a < 20 → b < 20 → ¬ (x = nI a ∧ y = nI b)) ∧ u.1 = 1)) (fun u t => tn_at dC dI (tn_tys cI cL cZ) (va_A (tm_ws h b1 b2 b3 b4 b5 b6 cI cL cZ th cnt fp sp mo on rs rw rl le bl bs) sz) (tm_ws h b1 b2 b3 b4 b5 b6 cI cL cZ u.1 cnt fp sp mo on rs rw rl u.2.1 u.2.2.1 u.2.2.2) t) (va_A (tm_ws h b1 b2 b3 b4 b5 b6 cI cL cZ th cnt fp sp mo on rs rw rl le bl bs) sz)) 0 0 (va_A (tm_ws h b1 b2 b3 b4 b5 b6 cI cL cZ th cnt fp sp mo on rs rw rl le bl bs) sz) := by
  refine Met.ofW (cc := cX1_bound) (maxL := 3) (ret := (some .long)) (by decide) rfl ?_
  intro p e s m args below meth c s₁ B hml hv
  obtain ⟨rfl, hsz, hP, hK, hD0⟩ := hv
  have hx := B.exec
  have hb := B.bytes
  have hr := B.returns
  have hts := atoms_spec (ws := wsX1_bound) B.pre
  have hown : s.vm.findClass RX1 = some m.cls := findClass_of_methodNamed B.named
  have hlocks := B.notSynchronized
  subst hsz
  have hD := hD0.self (sz := s.heap.size)
  generalize hAe : va_A (tm_ws h b1 b2 b3 b4 b5 b6 cI cL cZ th cnt fp sp mo on rs rw rl le bl bs) s.heap.size = A at hD ⊢
  have hA : ∀ q : Nat, s.heap.size ≤ q → A q := fun q h => by rw [← hAe]; exact Or.inr h
  have hS : va_S A s.heap s.heap [] := va_S.rf
  have hl := lv_entry ([.ref h, .int x, .int y]) (n := 3) (Nat.le_of_ble_eq_true rfl)
  rw [lg_entry_eq]
  generalize (lg_sl ([.ref h, .int x, .int y]) ++ List.replicate (3 - (lg_sl ([.ref h, .int x, .int y])).length) Slot.unset).toArray = ls at hl ⊢
  have hl : lv_has ls 3 [(0, .ref h), (1, .int x), (2, .int y)] := hl
  have kf30 := hts (.fieldLink RX1 30 "TimeNetModel" "thrown" "I") (by decide +kernel)
  have kf42 := hts (.fieldLink RX1 42 "TimeNetModel" "bestLength" "J") (by decide +kernel)
  have kc37 := hts (.constantLong RX1 37 (9223372036854775807)) (by decide +kernel)
  have hin : ∀ w ∈ u_ws RX1 TX1 12, w ∈ wsX1_bound := by decide +kernel
  have hc := g.1
  refine lv_aload_n hx hb dX1_bound_0 rfl (lv_at hl 0 rfl) ?_
  refine lv_iload_n hx hb dX1_bound_1 rfl (lv_at hl 1 rfl) ?_
  have hF := tn_freeA hD hS hA
  refine va_calli (va_runS (As := [.int x]) (rest := [.ref h]) ⟨hx, hb, hml, hown, hts⟩ (cX1_isPoint_ok l dC dI h b1 b2 b3 b4 b5 b6 cI cL cZ th cnt fp sp mo on rs rw rl le bl bs s.heap.size x) (va_cwS 1 hts gX1_bound_X1_isPoint rfl rfl rfl (by decide +kernel) ⟨Nat.le_of_ble_eq_true rfl, Nat.le_of_ble_eq_true rfl⟩) (tn_preS hK hP hD) rfl rfl hl.1 rfl (lv_room (Nat.le_of_ble_eq_true rfl)) dX1_bound_2 ⟨Nat.le_of_ble_eq_true rfl, Nat.le_of_ble_eq_true rfl⟩) hS (fun q _ h => hF q h) hF (fun r_2 u_2 t H1 locs ht hvm hw_2 hB hz1 hk1 hS => ?_)
  obtain ⟨hP1, -, hD1⟩ := hB
  rw [ht] at hP1
  have hD := hD1.weaken (fun _ q _ hq => hF q.1 hq)
  clear hP hk1 hF hz1 ht hvm hD1
  generalize H1 = H at hP1 hS ⊢
  have hP := hP1
  clear hP1
  refine lv_if_eq (tgt := 19) hx hb dX1_bound_5 (by decide) (fun c_5 => ?_) (fun c_5 => ?_)
  · skip
    have hn_2 : ∀ j, j < 20 → x ≠ nI j := by
      rcases hw_2 with ⟨q, _⟩ | ⟨_, q⟩
      · exact absurd (q ▸ c_5 : nI 1 = 0) (by decide)
      · exact q
    refine lv_iconst (v := nI 1) hx hb dX1_bound_19 (by decide) ?_
    refine va_put (D := (dC, dI)) (ci := 1) (v := .int (nI 1)) (ty := .int) (C := RX1) (T := TX1) (N := 12) hx hb hts hin tyX1 tyX1_ok nmX1 hown hK hP hD hS 0 rfl rfl 0 (by decide) kf30 (fun _ h9 => h9) rfl (by decide +kernel) rfl rfl (Nat.le_of_ble_eq_true rfl) dX1_bound_20 (fun H locs hP hD hS => ?_)
    have hP : va_P (dC, dI) vwCl (tm_ws h b1 b2 b3 b4 b5 b6 cI cL cZ 1 cnt fp sp mo on rs rw rl le bl bs) H := hP
    have hD : va_D A (tm_ws h b1 b2 b3 b4 b5 b6 cI cL cZ 1 cnt fp sp mo on rs rw rl le bl bs) := hD
    refine lv_aload_n hx hb dX1_bound_23 rfl (lv_at hl 0 rfl) ?_
    refine va_get (D := (dC, dI)) (ci := 1) (v := .int (nI 1)) (C := RX1) (T := TX1) (N := 12) hx hb hts hin hown hK hP 0 rfl rfl 0 (by decide) kf30 (fun _ h9 => h9) rfl dX1_bound_24 ?_
    refine lv_if_le (tgt := 32) hx hb dX1_bound_27 (by decide) (fun c_27 => ?_) (fun c_27 => ?_)
    · skip
      exact absurd c_27 (by decide)
    · skip
      refine lv_lconst (v := 0) hx hb dX1_bound_30 (by decide) ?_
      exact W.lret (v := 0) hx hb hr (fun t ht hW => ⟨⟨0, (1, le, bl, bs), rfl, Or.inr ⟨fun a b ha _ q => hn_2 a ha q.1, rfl⟩, by rw [ht]; exact hP, va_K.moved hW.alike hK, hD⟩, hS.F ht⟩) hS.2.2 dX1_bound_31
  · skip
    obtain ⟨a, ha, ea⟩ : ∃ j, j < 20 ∧ x = nI j := by
      rcases hw_2 with ⟨_, q⟩ | ⟨q, _⟩
      · exact q
      · exact absurd (q : r_2 = 0) c_5
    subst ea
    refine lv_iload_n hx hb dX1_bound_8 rfl (lv_at hl 2 rfl) ?_
    have hF := tn_freeA hD hS hA
    refine va_calli (va_runS (As := [.int y]) (rest := [.ref h]) ⟨hx, hb, hml, hown, hts⟩ (cX1_isPoint_ok l dC dI h b1 b2 b3 b4 b5 b6 cI cL cZ th cnt fp sp mo on rs rw rl le bl bs H.size y) (va_cwS 1 hts gX1_bound_X1_isPoint rfl rfl rfl (by decide +kernel) ⟨Nat.le_of_ble_eq_true rfl, Nat.le_of_ble_eq_true rfl⟩) (tn_preS hK hP hD) rfl rfl hl.1 rfl (lv_room (Nat.le_of_ble_eq_true rfl)) dX1_bound_9 ⟨Nat.le_of_ble_eq_true rfl, Nat.le_of_ble_eq_true rfl⟩) hS (fun q _ h => hF q h) hF (fun r_9 u_9 t H1 locs ht hvm hw_9 hB hz1 hk1 hS => ?_)
    obtain ⟨hP1, -, hD1⟩ := hB
    rw [ht] at hP1
    have hD := hD1.weaken (fun _ q _ hq => hF q.1 hq)
    clear hP hk1 hF hz1 ht hvm hD1
    generalize H1 = H at hP1 hS ⊢
    have hP := hP1
    clear hP1
    refine lv_if_eq (tgt := 19) hx hb dX1_bound_12 (by decide) (fun c_12 => ?_) (fun c_12 => ?_)
    · skip
      have hn_9 : ∀ j, j < 20 → y ≠ nI j := by
        rcases hw_9 with ⟨q, _⟩ | ⟨_, q⟩
        · exact absurd (q ▸ c_12 : nI 1 = 0) (by decide)
        · exact q
      refine lv_iconst (v := nI 1) hx hb dX1_bound_19 (by decide) ?_
      refine va_put (D := (dC, dI)) (ci := 1) (v := .int (nI 1)) (ty := .int) (C := RX1) (T := TX1) (N := 12) hx hb hts hin tyX1 tyX1_ok nmX1 hown hK hP hD hS 0 rfl rfl 0 (by decide) kf30 (fun _ h9 => h9) rfl (by decide +kernel) rfl rfl (Nat.le_of_ble_eq_true rfl) dX1_bound_20 (fun H locs hP hD hS => ?_)
      have hP : va_P (dC, dI) vwCl (tm_ws h b1 b2 b3 b4 b5 b6 cI cL cZ 1 cnt fp sp mo on rs rw rl le bl bs) H := hP
      have hD : va_D A (tm_ws h b1 b2 b3 b4 b5 b6 cI cL cZ 1 cnt fp sp mo on rs rw rl le bl bs) := hD
      refine lv_aload_n hx hb dX1_bound_23 rfl (lv_at hl 0 rfl) ?_
      refine va_get (D := (dC, dI)) (ci := 1) (v := .int (nI 1)) (C := RX1) (T := TX1) (N := 12) hx hb hts hin hown hK hP 0 rfl rfl 0 (by decide) kf30 (fun _ h9 => h9) rfl dX1_bound_24 ?_
      refine lv_if_le (tgt := 32) hx hb dX1_bound_27 (by decide) (fun c_27 => ?_) (fun c_27 => ?_)
      · skip
        exact absurd c_27 (by decide)
      · skip
        refine lv_lconst (v := 0) hx hb dX1_bound_30 (by decide) ?_
        exact W.lret (v := 0) hx hb hr (fun t ht hW => ⟨⟨0, (1, le, bl, bs), rfl, Or.inr ⟨fun a2 b _ hb q => hn_9 b hb q.2, rfl⟩, by rw [ht]; exact hP, va_K.moved hW.alike hK, hD⟩, hS.F ht⟩) hS.2.2 dX1_bound_31
    · skip
      obtain ⟨b, hb2, eb⟩ : ∃ j, j < 20 ∧ y = nI j := by
        rcases hw_9 with ⟨_, q⟩ | ⟨q, _⟩
        · exact q
        · exact absurd (q : r_9 = 0) c_12
      subst eb
      refine lv_iconst (v := nI 0) hx hb dX1_bound_15 (by decide) ?_
      refine lv_goto (tgt := 20) hx hb dX1_bound_16 (by decide) ?_
      refine va_put (D := (dC, dI)) (ci := 1) (v := .int (nI 0)) (ty := .int) (C := RX1) (T := TX1) (N := 12) hx hb hts hin tyX1 tyX1_ok nmX1 hown hK hP hD hS 0 rfl rfl 0 (by decide) kf30 (fun _ h9 => h9) rfl (by decide +kernel) rfl rfl (Nat.le_of_ble_eq_true rfl) dX1_bound_20 (fun H locs hP hD hS => ?_)
      have hP : va_P (dC, dI) vwCl (tm_ws h b1 b2 b3 b4 b5 b6 cI cL cZ 0 cnt fp sp mo on rs rw rl le bl bs) H := hP
      have hD : va_D A (tm_ws h b1 b2 b3 b4 b5 b6 cI cL cZ 0 cnt fp sp mo on rs rw rl le bl bs) := hD
      refine lv_aload_n hx hb dX1_bound_23 rfl (lv_at hl 0 rfl) ?_
      refine va_get (D := (dC, dI)) (ci := 1) (v := .int (nI 0)) (C := RX1) (T := TX1) (N := 12) hx hb hts hin hown hK hP 0 rfl rfl 0 (by decide) kf30 (fun _ h9 => h9) rfl dX1_bound_24 ?_
      refine lv_if_le (tgt := 32) hx hb dX1_bound_27 (by decide) (fun c_27 => ?_) (fun c_27 => ?_)
      · skip
        refine lv_aload_n hx hb dX1_bound_32 rfl (lv_at hl 0 rfl) ?_
        refine lv_iload_n hx hb dX1_bound_33 rfl (lv_at hl 1 rfl) ?_
        refine lv_iload_n hx hb dX1_bound_34 rfl (lv_at hl 2 rfl) ?_
        have hF := tn_freeA hD hS hA
        refine va_calli (va_runV (As := [.int (nI a), .int (nI b)]) (rest := []) ⟨hx, hb, hml, hown, hts⟩ (cX1_best_ok l dC dI h b1 b2 b3 b4 b5 b6 cI cL cZ 0 cnt fp sp mo on rs rw rl le bl bs H.size g ok a ha b hb2) (cwV 2 hts gX1_bound_X1_best rfl rfl rfl (by decide +kernel) ⟨Nat.le_of_ble_eq_true rfl, Nat.le_of_ble_eq_true rfl⟩) (tn_preV hK hP hD (ci := 1) rfl 0 rfl) rfl rfl hl.1 rfl (lv_room (Nat.le_of_ble_eq_true rfl)) dX1_bound_35 ⟨Nat.le_of_ble_eq_true rfl, Nat.le_of_ble_eq_true rfl⟩) hS (fun q _ h => hF q h) hF (fun r_35 u_35 t H1 locs ht hvm hw_35 hB hz1 hk1 hS => ?_)
        obtain ⟨hP1, -, hD1⟩ := hB
        rw [ht] at hP1
        have hD := hD1.weaken (fun _ q _ hq => hF q.1 hq)
        clear hP hk1 hF hz1 ht hvm hD1
        generalize H1 = H at hP1 hS ⊢
        have hP := hP1
        clear hP1
        refine lv_if_eq (tgt := 48) hx hb dX1_bound_38 (by decide) (fun c_38 => ?_) (fun c_38 => ?_)
        · skip
          have hz : r_35 = nI 0 := c_38
          have hno : ∀ n L, ¬ tn_wk (tn_E cnt fp sp mo on) n a b L := by
            rcases hw_35.2 with ⟨_, _, _, q⟩ | ⟨q, _⟩
            · exact q
            · exact absurd (q.symm.trans hz) (by decide)
          refine lv_ldc2 (v := 9223372036854775807) hx hb hown kc37 dX1_bound_48 ?_
          exact W.lret (v := 9223372036854775807) hx hb hr (fun t ht hW => ⟨⟨9223372036854775807, (0, u_35.1, u_35.2.1, u_35.2.2), rfl, Or.inl ⟨a, b, ha, hb2, rfl, rfl, rfl, Or.inr ⟨hno, rfl⟩⟩, by rw [ht]; exact hP, va_K.moved hW.alike hK, hD⟩, hS.F ht⟩) hS.2.2 dX1_bound_51
        · skip
          have hz : r_35 = nI 1 := by
            rcases hw_35.2 with ⟨q, _⟩ | ⟨q, _⟩
            · exact absurd (q : r_35 = 0) c_38
            · exact q
          obtain ⟨n0, hn0, hbs, hbl, hbx, hbe⟩ : ∃ n, n ≤ 19 ∧ u_35.2.2 = nI n ∧ u_35.2.1 = u_35.1 (20 * n + a) ∧ u_35.2.1 ≠ tn_MX ∧ tn_best (tn_E cnt fp sp mo on) a b u_35.2.1.toInt n := by
            rcases hw_35.2 with ⟨q, _⟩ | ⟨_, q⟩
            · exact absurd (q : r_35 = 0) c_38
            · exact q
          refine lv_aload_n hx hb dX1_bound_41 rfl (lv_at hl 0 rfl) ?_
          refine va_get (D := (dC, dI)) (ci := 1) (v := .long u_35.2.1) (C := RX1) (T := TX1) (N := 12) hx hb hts hin hown hK hP 0 rfl rfl 10 (by decide) kf42 (fun _ h9 => h9) rfl dX1_bound_42 ?_
          refine lv_goto (tgt := 51) hx hb dX1_bound_45 (by decide) ?_
          exact W.lret (v := u_35.2.1) hx hb hr (fun t ht hW => ⟨⟨u_35.2.1, (0, u_35.1, u_35.2.1, u_35.2.2), rfl, Or.inl ⟨a, b, ha, hb2, rfl, rfl, rfl, Or.inl ⟨_, n0, hbe, rfl⟩⟩, by rw [ht]; exact hP, va_K.moved hW.alike hK, hD⟩, hS.F ht⟩) hS.2.2 dX1_bound_51
      · skip
        exact absurd (show nI 0 ≤ 0 by decide) c_27
set_option maxHeartbeats 4000000 in
set_option maxRecDepth 100000 in
/-- earliest(x) -/
theorem cX1_earliest_ok (l : Launch) (dC : Nat → ClassId) (dI : Nat → Nat → Nat) (h b1 b2 b3 b4 b5 b6 : Nat) (cI cL cZ : ClassId) (th cnt : Nat) (fp sp : Nat → Nat) (mo : Nat → Int64) (on : Nat → Bool) (rs : Nat) (rw : Nat → Nat) (rl : Int64) (le : Nat → Int64) (bl : Int64) (bs : Int32) (sz : Nat) (g : tn_good cnt fp sp mo) (ok : tn_ok (tn_E cnt fp sp mo on)) (x : Int32) : Met l yX1_earliest wsX1_earliest ({ frames := 1, cells := 0, slots := 0, locals := 26 }) (va_Pc [.ref h, .int x] (tn_Pre dC dI (tn_tys cI cL cZ) (tm_ws h b1 b2 b3 b4 b5 b6 cI cL cZ th cnt fp sp mo on rs rw rl le bl bs) sz)) (va_Ql (S := Nat × (Nat → Int64) × Int64 × Int32) (fun r u => (∃ a, a < 20 ∧ x = nI a ∧ u.1 = 0 ∧ sp_earl (tn_E cnt fp sp mo on) a r) ∨ ((∀ a, a < 20 → ¬ x = nI a) ∧ u.1 = 1)) (fun u t => tn_at dC dI (tn_tys cI cL cZ) (va_A (tm_ws h b1 b2 b3 b4 b5 b6 cI cL cZ th cnt fp sp mo on rs rw rl le bl bs) sz) (tm_ws h b1 b2 b3 b4 b5 b6 cI cL cZ u.1 cnt fp sp mo on rs rw rl u.2.1 u.2.2.1 u.2.2.2) t) (va_A (tm_ws h b1 b2 b3 b4 b5 b6 cI cL cZ th cnt fp sp mo on rs rw rl le bl bs) sz)) 0 0 (va_A (tm_ws h b1 b2 b3 b4 b5 b6 cI cL cZ th cnt fp sp mo on rs rw rl le bl bs) sz) := by
  refine Met.ofW (cc := cX1_earliest) (maxL := 2) (ret := (some .long)) (by decide) rfl ?_
  intro p e s m args below meth c s₁ B hml hv
  obtain ⟨rfl, hsz, hP, hK, hD0⟩ := hv
  have hx := B.exec
  have hb := B.bytes
  have hr := B.returns
  have hts := atoms_spec (ws := wsX1_earliest) B.pre
  have hown : s.vm.findClass RX1 = some m.cls := findClass_of_methodNamed B.named
  have hlocks := B.notSynchronized
  subst hsz
  have hD := hD0.self (sz := s.heap.size)
  generalize hAe : va_A (tm_ws h b1 b2 b3 b4 b5 b6 cI cL cZ th cnt fp sp mo on rs rw rl le bl bs) s.heap.size = A at hD ⊢
  have hA : ∀ q : Nat, s.heap.size ≤ q → A q := fun q h => by rw [← hAe]; exact Or.inr h
  have hS : va_S A s.heap s.heap [] := va_S.rf
  have hl := lv_entry ([.ref h, .int x]) (n := 2) (Nat.le_of_ble_eq_true rfl)
  rw [lg_entry_eq]
  generalize (lg_sl ([.ref h, .int x]) ++ List.replicate (2 - (lg_sl ([.ref h, .int x])).length) Slot.unset).toArray = ls at hl ⊢
  have hl : lv_has ls 2 [(0, .ref h), (1, .int x)] := hl
  have kf30 := hts (.fieldLink RX1 30 "TimeNetModel" "thrown" "I") (by decide +kernel)
  have kf42 := hts (.fieldLink RX1 42 "TimeNetModel" "bestLength" "J") (by decide +kernel)
  have kc79 := hts (.constantLong RX1 79 (-9223372036854775808)) (by decide +kernel)
  have hin : ∀ w ∈ u_ws RX1 TX1 12, w ∈ wsX1_earliest := by decide +kernel
  have hc := g.1
  refine lv_aload_n hx hb dX1_earliest_0 rfl (lv_at hl 0 rfl) ?_
  refine lv_iload_n hx hb dX1_earliest_1 rfl (lv_at hl 1 rfl) ?_
  have hF := tn_freeA hD hS hA
  refine va_calli (va_runS (As := [.int x]) (rest := [.ref h]) ⟨hx, hb, hml, hown, hts⟩ (cX1_isPoint_ok l dC dI h b1 b2 b3 b4 b5 b6 cI cL cZ th cnt fp sp mo on rs rw rl le bl bs s.heap.size x) (va_cwS 1 hts gX1_earliest_X1_isPoint rfl rfl rfl (by decide +kernel) ⟨Nat.le_of_ble_eq_true rfl, Nat.le_of_ble_eq_true rfl⟩) (tn_preS hK hP hD) rfl rfl hl.1 rfl (lv_room (Nat.le_of_ble_eq_true rfl)) dX1_earliest_2 ⟨Nat.le_of_ble_eq_true rfl, Nat.le_of_ble_eq_true rfl⟩) hS (fun q _ h => hF q h) hF (fun r_2 u_2 t H1 locs ht hvm hw_2 hB hz1 hk1 hS => ?_)
  obtain ⟨hP1, -, hD1⟩ := hB
  rw [ht] at hP1
  have hD := hD1.weaken (fun _ q _ hq => hF q.1 hq)
  clear hP hk1 hF hz1 ht hvm hD1
  generalize H1 = H at hP1 hS ⊢
  have hP := hP1
  clear hP1
  refine lv_if_eq (tgt := 12) hx hb dX1_earliest_5 (by decide) (fun c_5 => ?_) (fun c_5 => ?_)
  · skip
    have hn_2 : ∀ j, j < 20 → x ≠ nI j := by
      rcases hw_2 with ⟨q, _⟩ | ⟨_, q⟩
      · exact absurd (q ▸ c_5 : nI 1 = 0) (by decide)
      · exact q
    refine lv_iconst (v := nI 1) hx hb dX1_earliest_12 (by decide) ?_
    refine va_put (D := (dC, dI)) (ci := 1) (v := .int (nI 1)) (ty := .int) (C := RX1) (T := TX1) (N := 12) hx hb hts hin tyX1 tyX1_ok nmX1 hown hK hP hD hS 0 rfl rfl 0 (by decide) kf30 (fun _ h9 => h9) rfl (by decide +kernel) rfl rfl (Nat.le_of_ble_eq_true rfl) dX1_earliest_13 (fun H locs hP hD hS => ?_)
    have hP : va_P (dC, dI) vwCl (tm_ws h b1 b2 b3 b4 b5 b6 cI cL cZ 1 cnt fp sp mo on rs rw rl le bl bs) H := hP
    have hD : va_D A (tm_ws h b1 b2 b3 b4 b5 b6 cI cL cZ 1 cnt fp sp mo on rs rw rl le bl bs) := hD
    refine lv_aload_n hx hb dX1_earliest_16 rfl (lv_at hl 0 rfl) ?_
    refine va_get (D := (dC, dI)) (ci := 1) (v := .int (nI 1)) (C := RX1) (T := TX1) (N := 12) hx hb hts hin hown hK hP 0 rfl rfl 0 (by decide) kf30 (fun _ h9 => h9) rfl dX1_earliest_17 ?_
    refine lv_if_le (tgt := 25) hx hb dX1_earliest_20 (by decide) (fun c_20 => ?_) (fun c_20 => ?_)
    · skip
      exact absurd c_20 (by decide)
    · skip
      refine lv_lconst (v := 0) hx hb dX1_earliest_23 (by decide) ?_
      exact W.lret (v := 0) hx hb hr (fun t ht hW => ⟨⟨0, (1, le, bl, bs), rfl, Or.inr ⟨fun a ha q => hn_2 a ha q, rfl⟩, by rw [ht]; exact hP, va_K.moved hW.alike hK, hD⟩, hS.F ht⟩) hS.2.2 dX1_earliest_24
  · skip
    obtain ⟨a, ha, ea⟩ : ∃ j, j < 20 ∧ x = nI j := by
      rcases hw_2 with ⟨_, q⟩ | ⟨q, _⟩
      · exact q
      · exact absurd (q : r_2 = 0) c_5
    subst ea
    refine lv_iconst (v := nI 0) hx hb dX1_earliest_8 (by decide) ?_
    refine lv_goto (tgt := 13) hx hb dX1_earliest_9 (by decide) ?_
    refine va_put (D := (dC, dI)) (ci := 1) (v := .int (nI 0)) (ty := .int) (C := RX1) (T := TX1) (N := 12) hx hb hts hin tyX1 tyX1_ok nmX1 hown hK hP hD hS 0 rfl rfl 0 (by decide) kf30 (fun _ h9 => h9) rfl (by decide +kernel) rfl rfl (Nat.le_of_ble_eq_true rfl) dX1_earliest_13 (fun H locs hP hD hS => ?_)
    have hP : va_P (dC, dI) vwCl (tm_ws h b1 b2 b3 b4 b5 b6 cI cL cZ 0 cnt fp sp mo on rs rw rl le bl bs) H := hP
    have hD : va_D A (tm_ws h b1 b2 b3 b4 b5 b6 cI cL cZ 0 cnt fp sp mo on rs rw rl le bl bs) := hD
    refine lv_aload_n hx hb dX1_earliest_16 rfl (lv_at hl 0 rfl) ?_
    refine va_get (D := (dC, dI)) (ci := 1) (v := .int (nI 0)) (C := RX1) (T := TX1) (N := 12) hx hb hts hin hown hK hP 0 rfl rfl 0 (by decide) kf30 (fun _ h9 => h9) rfl dX1_earliest_17 ?_
    refine lv_if_le (tgt := 25) hx hb dX1_earliest_20 (by decide) (fun c_20 => ?_) (fun c_20 => ?_)
    · skip
      refine lv_aload_n hx hb dX1_earliest_25 rfl (lv_at hl 0 rfl) ?_
      refine lv_iload_n hx hb dX1_earliest_26 rfl (lv_at hl 1 rfl) ?_
      refine lv_iconst (v := nI 0) hx hb dX1_earliest_27 (by decide) ?_
      have hF := tn_freeA hD hS hA
      refine va_calli (va_runV (As := [.int (nI a), .int (nI 0)]) (rest := []) ⟨hx, hb, hml, hown, hts⟩ (cX1_best_ok l dC dI h b1 b2 b3 b4 b5 b6 cI cL cZ 0 cnt fp sp mo on rs rw rl le bl bs H.size g ok a ha 0 (by omega)) (cwV 2 hts gX1_earliest_X1_best rfl rfl rfl (by decide +kernel) ⟨Nat.le_of_ble_eq_true rfl, Nat.le_of_ble_eq_true rfl⟩) (tn_preV hK hP hD (ci := 1) rfl 0 rfl) rfl rfl hl.1 rfl (lv_room (Nat.le_of_ble_eq_true rfl)) dX1_earliest_28 ⟨Nat.le_of_ble_eq_true rfl, Nat.le_of_ble_eq_true rfl⟩) hS (fun q _ h => hF q h) hF (fun r_28 u_28 t H1 locs ht hvm hw_28 hB hz1 hk1 hS => ?_)
      obtain ⟨hP1, -, hD1⟩ := hB
      rw [ht] at hP1
      have hD := hD1.weaken (fun _ q _ hq => hF q.1 hq)
      clear hP hk1 hF hz1 ht hvm hD1
      generalize H1 = H at hP1 hS ⊢
      have hP := hP1
      clear hP1
      refine lv_if_eq (tgt := 42) hx hb dX1_earliest_31 (by decide) (fun c_31 => ?_) (fun c_31 => ?_)
      · skip
        have hz : r_28 = nI 0 := c_31
        have hno : ∀ n L, ¬ tn_wk (tn_E cnt fp sp mo on) n a 0 L := by
          rcases hw_28.2 with ⟨_, _, _, q⟩ | ⟨q, _⟩
          · exact q
          · exact absurd (q.symm.trans hz) (by decide)
        refine lv_ldc2 (v := (-9223372036854775808)) hx hb hown kc79 dX1_earliest_42 ?_
        exact W.lret (v := (-9223372036854775808)) hx hb hr (fun t ht hW => ⟨⟨(-9223372036854775808), (0, u_28.1, u_28.2.1, u_28.2.2), rfl, Or.inl ⟨a, ha, rfl, rfl, Or.inr ⟨hno, rfl⟩⟩, by rw [ht]; exact hP, va_K.moved hW.alike hK, hD⟩, hS.F ht⟩) hS.2.2 dX1_earliest_45
      · skip
        have hz : r_28 = nI 1 := by
          rcases hw_28.2 with ⟨q, _⟩ | ⟨q, _⟩
          · exact absurd (q : r_28 = 0) c_31
          · exact q
        obtain ⟨n0, hn0, hbs, hbl, hbx, hbe⟩ : ∃ n, n ≤ 19 ∧ u_28.2.2 = nI n ∧ u_28.2.1 = u_28.1 (20 * n + a) ∧ u_28.2.1 ≠ tn_MX ∧ tn_best (tn_E cnt fp sp mo on) a 0 u_28.2.1.toInt n := by
          rcases hw_28.2 with ⟨q, _⟩ | ⟨_, q⟩
          · exact absurd (q : r_28 = 0) c_31
          · exact q
        refine lv_aload_n hx hb dX1_earliest_34 rfl (lv_at hl 0 rfl) ?_
        refine va_get (D := (dC, dI)) (ci := 1) (v := .long u_28.2.1) (C := RX1) (T := TX1) (N := 12) hx hb hts hin hown hK hP 0 rfl rfl 10 (by decide) kf42 (fun _ h9 => h9) rfl dX1_earliest_35 ?_
        refine lv_lneg hx hb dX1_earliest_38 ?_
        refine lv_goto (tgt := 45) hx hb dX1_earliest_39 (by decide) ?_
        exact W.lret (v := -u_28.2.1) hx hb hr (fun t ht hW => ⟨⟨-u_28.2.1, (0, u_28.1, u_28.2.1, u_28.2.2), rfl, Or.inl ⟨a, ha, rfl, rfl, Or.inl ⟨_, n0, hbe, tm_neg (tn_E_bd g) hn0 hbe⟩⟩, by rw [ht]; exact hP, va_K.moved hW.alike hK, hD⟩, hS.F ht⟩) hS.2.2 dX1_earliest_45
    · skip
      exact absurd (show nI 0 ≤ 0 by decide) c_20
set_option maxHeartbeats 4000000 in
set_option maxRecDepth 100000 in
/-- thrown() -/
theorem cX1_thrown_ok (l : Launch) (dC : Nat → ClassId) (dI : Nat → Nat → Nat) (h b1 b2 b3 b4 b5 b6 : Nat) (cI cL cZ : ClassId) (th cnt : Nat) (fp sp : Nat → Nat) (mo : Nat → Int64) (on : Nat → Bool) (rs : Nat) (rw : Nat → Nat) (rl : Int64) (le : Nat → Int64) (bl : Int64) (bs : Int32) (sz : Nat)  : Met l yX1_thrown wsX1_thrown ({ frames := 0, cells := 0, slots := 0, locals := 0 }) (va_Pc [.ref h] (tn_Pre dC dI (tn_tys cI cL cZ) (tm_ws h b1 b2 b3 b4 b5 b6 cI cL cZ th cnt fp sp mo on rs rw rl le bl bs) sz)) (va_Qi (S := Unit) (fun r _ => r = nI th) (fun u t => tn_at dC dI (tn_tys cI cL cZ) (va_A (tm_ws h b1 b2 b3 b4 b5 b6 cI cL cZ th cnt fp sp mo on rs rw rl le bl bs) sz) (tm_ws h b1 b2 b3 b4 b5 b6 cI cL cZ th cnt fp sp mo on rs rw rl le bl bs) t) (va_A (tm_ws h b1 b2 b3 b4 b5 b6 cI cL cZ th cnt fp sp mo on rs rw rl le bl bs) sz)) 0 0 (va_A (tm_ws h b1 b2 b3 b4 b5 b6 cI cL cZ th cnt fp sp mo on rs rw rl le bl bs) sz) := by
  refine Met.ofW (cc := cX1_thrown) (maxL := 1) (ret := (some .int)) (by decide) rfl ?_
  intro p e s m args below meth c s₁ B hml hv
  obtain ⟨rfl, hsz, hP, hK, hD0⟩ := hv
  have hx := B.exec
  have hb := B.bytes
  have hr := B.returns
  have hts := atoms_spec (ws := wsX1_thrown) B.pre
  have hown : s.vm.findClass RX1 = some m.cls := findClass_of_methodNamed B.named
  have hlocks := B.notSynchronized
  subst hsz
  have hD := hD0.self (sz := s.heap.size)
  generalize hAe : va_A (tm_ws h b1 b2 b3 b4 b5 b6 cI cL cZ th cnt fp sp mo on rs rw rl le bl bs) s.heap.size = A at hD ⊢
  have hA : ∀ q : Nat, s.heap.size ≤ q → A q := fun q h => by rw [← hAe]; exact Or.inr h
  have hS : va_S A s.heap s.heap [] := va_S.rf
  have hl := lv_entry ([.ref h]) (n := 1) (Nat.le_of_ble_eq_true rfl)
  rw [lg_entry_eq]
  generalize (lg_sl ([.ref h]) ++ List.replicate (1 - (lg_sl ([.ref h])).length) Slot.unset).toArray = ls at hl ⊢
  have hl : lv_has ls 1 [(0, .ref h)] := hl
  have kf30 := hts (.fieldLink RX1 30 "TimeNetModel" "thrown" "I") (by decide +kernel)
  have hin : ∀ w ∈ u_ws RX1 TX1 12, w ∈ wsX1_thrown := by decide +kernel
  refine lv_aload_n hx hb dX1_thrown_0 rfl (lv_at hl 0 rfl) ?_
  refine va_get (D := (dC, dI)) (ci := 1) (v := .int (nI th)) (C := RX1) (T := TX1) (N := 12) hx hb hts hin hown hK hP 0 rfl rfl 0 (by decide) kf30 (fun _ h9 => h9) rfl dX1_thrown_1 ?_
  exact W.iret (v := nI th) hx hb hr (fun t ht hW => ⟨⟨nI th, (), rfl, rfl, by rw [ht]; exact hP, va_K.moved hW.alike hK, hD⟩, hS.F ht⟩) hS.2.2 dX1_thrown_4
set_option maxHeartbeats 4000000 in
set_option maxRecDepth 100000 in
/-- row() -/
theorem cX1_row_ok (l : Launch) (dC : Nat → ClassId) (dI : Nat → Nat → Nat) (h b1 b2 b3 b4 b5 b6 : Nat) (cI cL cZ : ClassId) (th cnt : Nat) (fp sp : Nat → Nat) (mo : Nat → Int64) (on : Nat → Bool) (rs : Nat) (rw : Nat → Nat) (rl : Int64) (le : Nat → Int64) (bl : Int64) (bs : Int32) (sz : Nat)  : Met l yX1_row wsX1_row ({ frames := 0, cells := 0, slots := 0, locals := 0 }) (va_Pc [.ref h] (tn_Pre dC dI (tn_tys cI cL cZ) (tm_ws h b1 b2 b3 b4 b5 b6 cI cL cZ th cnt fp sp mo on rs rw rl le bl bs) sz)) (va_Qi (S := Unit) (fun r _ => r = nI rs) (fun u t => tn_at dC dI (tn_tys cI cL cZ) (va_A (tm_ws h b1 b2 b3 b4 b5 b6 cI cL cZ th cnt fp sp mo on rs rw rl le bl bs) sz) (tm_ws h b1 b2 b3 b4 b5 b6 cI cL cZ 0 cnt fp sp mo on rs rw rl le bl bs) t) (va_A (tm_ws h b1 b2 b3 b4 b5 b6 cI cL cZ th cnt fp sp mo on rs rw rl le bl bs) sz)) 0 0 (va_A (tm_ws h b1 b2 b3 b4 b5 b6 cI cL cZ th cnt fp sp mo on rs rw rl le bl bs) sz) := by
  refine Met.ofW (cc := cX1_row) (maxL := 1) (ret := (some .int)) (by decide) rfl ?_
  intro p e s m args below meth c s₁ B hml hv
  obtain ⟨rfl, hsz, hP, hK, hD0⟩ := hv
  have hx := B.exec
  have hb := B.bytes
  have hr := B.returns
  have hts := atoms_spec (ws := wsX1_row) B.pre
  have hown : s.vm.findClass RX1 = some m.cls := findClass_of_methodNamed B.named
  have hlocks := B.notSynchronized
  subst hsz
  have hD := hD0.self (sz := s.heap.size)
  generalize hAe : va_A (tm_ws h b1 b2 b3 b4 b5 b6 cI cL cZ th cnt fp sp mo on rs rw rl le bl bs) s.heap.size = A at hD ⊢
  have hA : ∀ q : Nat, s.heap.size ≤ q → A q := fun q h => by rw [← hAe]; exact Or.inr h
  have hS : va_S A s.heap s.heap [] := va_S.rf
  have hl := lv_entry ([.ref h]) (n := 1) (Nat.le_of_ble_eq_true rfl)
  rw [lg_entry_eq]
  generalize (lg_sl ([.ref h]) ++ List.replicate (1 - (lg_sl ([.ref h])).length) Slot.unset).toArray = ls at hl ⊢
  have hl : lv_has ls 1 [(0, .ref h)] := hl
  have kf30 := hts (.fieldLink RX1 30 "TimeNetModel" "thrown" "I") (by decide +kernel)
  have kf50 := hts (.fieldLink RX1 50 "TimeNetModel" "rowSize" "I") (by decide +kernel)
  have hin : ∀ w ∈ u_ws RX1 TX1 12, w ∈ wsX1_row := by decide +kernel
  refine lv_aload_n hx hb dX1_row_0 rfl (lv_at hl 0 rfl) ?_
  refine lv_iconst (v := nI 0) hx hb dX1_row_1 (by decide) ?_
  refine va_put (D := (dC, dI)) (ci := 1) (v := .int (nI 0)) (ty := .int) (C := RX1) (T := TX1) (N := 12) hx hb hts hin tyX1 tyX1_ok nmX1 hown hK hP hD hS 0 rfl rfl 0 (by decide) kf30 (fun _ h9 => h9) rfl (by decide +kernel) rfl rfl (Nat.le_of_ble_eq_true rfl) dX1_row_2 (fun H locs hP hD hS => ?_)
  have hP : va_P (dC, dI) vwCl (tm_ws h b1 b2 b3 b4 b5 b6 cI cL cZ 0 cnt fp sp mo on rs rw rl le bl bs) H := hP
  have hD : va_D A (tm_ws h b1 b2 b3 b4 b5 b6 cI cL cZ 0 cnt fp sp mo on rs rw rl le bl bs) := hD
  refine lv_aload_n hx hb dX1_row_5 rfl (lv_at hl 0 rfl) ?_
  refine va_get (D := (dC, dI)) (ci := 1) (v := .int (nI rs)) (C := RX1) (T := TX1) (N := 12) hx hb hts hin hown hK hP 0 rfl rfl 6 (by decide) kf50 (fun _ h9 => h9) rfl dX1_row_6 ?_
  exact W.iret (v := nI rs) hx hb hr (fun t ht hW => ⟨⟨nI rs, (), rfl, rfl, by rw [ht]; exact hP, va_K.moved hW.alike hK, hD⟩, hS.F ht⟩) hS.2.2 dX1_row_9
set_option maxHeartbeats 4000000 in
set_option maxRecDepth 100000 in
/-- rowAt(x) -/
theorem cX1_rowAt_ok (l : Launch) (dC : Nat → ClassId) (dI : Nat → Nat → Nat) (h b1 b2 b3 b4 b5 b6 : Nat) (cI cL cZ : ClassId) (th cnt : Nat) (fp sp : Nat → Nat) (mo : Nat → Int64) (on : Nat → Bool) (rs : Nat) (rw : Nat → Nat) (rl : Int64) (le : Nat → Int64) (bl : Int64) (bs : Int32) (sz : Nat) (hrs : rs ≤ 24) (x : Int32) : Met l yX1_rowAt wsX1_rowAt ({ frames := 0, cells := 0, slots := 0, locals := 0 }) (va_Pc [.ref h, .int x] (tn_Pre dC dI (tn_tys cI cL cZ) (tm_ws h b1 b2 b3 b4 b5 b6 cI cL cZ th cnt fp sp mo on rs rw rl le bl bs) sz)) (va_Qi (S := Unit) (fun r _ => sp_rowAt rw rs x r) (fun u t => tn_at dC dI (tn_tys cI cL cZ) (va_A (tm_ws h b1 b2 b3 b4 b5 b6 cI cL cZ th cnt fp sp mo on rs rw rl le bl bs) sz) (tm_ws h b1 b2 b3 b4 b5 b6 cI cL cZ 0 cnt fp sp mo on rs rw rl le bl bs) t) (va_A (tm_ws h b1 b2 b3 b4 b5 b6 cI cL cZ th cnt fp sp mo on rs rw rl le bl bs) sz)) 0 0 (va_A (tm_ws h b1 b2 b3 b4 b5 b6 cI cL cZ th cnt fp sp mo on rs rw rl le bl bs) sz) := by
  refine Met.ofW (cc := cX1_rowAt) (maxL := 2) (ret := (some .int)) (by decide) rfl ?_
  intro p e s m args below meth c s₁ B hml hv
  obtain ⟨rfl, hsz, hP, hK, hD0⟩ := hv
  have hx := B.exec
  have hb := B.bytes
  have hr := B.returns
  have hts := atoms_spec (ws := wsX1_rowAt) B.pre
  have hown : s.vm.findClass RX1 = some m.cls := findClass_of_methodNamed B.named
  have hlocks := B.notSynchronized
  subst hsz
  have hD := hD0.self (sz := s.heap.size)
  generalize hAe : va_A (tm_ws h b1 b2 b3 b4 b5 b6 cI cL cZ th cnt fp sp mo on rs rw rl le bl bs) s.heap.size = A at hD ⊢
  have hA : ∀ q : Nat, s.heap.size ≤ q → A q := fun q h => by rw [← hAe]; exact Or.inr h
  have hS : va_S A s.heap s.heap [] := va_S.rf
  have hl := lv_entry ([.ref h, .int x]) (n := 2) (Nat.le_of_ble_eq_true rfl)
  rw [lg_entry_eq]
  generalize (lg_sl ([.ref h, .int x]) ++ List.replicate (2 - (lg_sl ([.ref h, .int x])).length) Slot.unset).toArray = ls at hl ⊢
  have hl : lv_has ls 2 [(0, .ref h), (1, .int x)] := hl
  have kf30 := hts (.fieldLink RX1 30 "TimeNetModel" "thrown" "I") (by decide +kernel)
  have kf50 := hts (.fieldLink RX1 50 "TimeNetModel" "rowSize" "I") (by decide +kernel)
  have kf24 := hts (.fieldLink RX1 24 "TimeNetModel" "row" "[I") (by decide +kernel)
  have hin : ∀ w ∈ u_ws RX1 TX1 12, w ∈ wsX1_rowAt := by decide +kernel
  refine lv_aload_n hx hb dX1_rowAt_0 rfl (lv_at hl 0 rfl) ?_
  refine lv_iconst (v := nI 0) hx hb dX1_rowAt_1 (by decide) ?_
  refine va_put (D := (dC, dI)) (ci := 1) (v := .int (nI 0)) (ty := .int) (C := RX1) (T := TX1) (N := 12) hx hb hts hin tyX1 tyX1_ok nmX1 hown hK hP hD hS 0 rfl rfl 0 (by decide) kf30 (fun _ h9 => h9) rfl (by decide +kernel) rfl rfl (Nat.le_of_ble_eq_true rfl) dX1_rowAt_2 (fun H locs hP hD hS => ?_)
  have hP : va_P (dC, dI) vwCl (tm_ws h b1 b2 b3 b4 b5 b6 cI cL cZ 0 cnt fp sp mo on rs rw rl le bl bs) H := hP
  have hD : va_D A (tm_ws h b1 b2 b3 b4 b5 b6 cI cL cZ 0 cnt fp sp mo on rs rw rl le bl bs) := hD
  refine lv_iload_n hx hb dX1_rowAt_5 rfl (lv_at hl 1 rfl) ?_
  refine lv_if_lt (tgt := 26) hx hb dX1_rowAt_6 (by decide) (fun c_6 => ?_) (fun c_6 => ?_)
  · skip
    refine lv_iconst (v := (-1)) hx hb dX1_rowAt_26 (by decide) ?_
    exact W.iret (v := (-1)) hx hb hr (fun t ht hW => ⟨⟨(-1), (), rfl, Or.inr ⟨tn_ix2 c_6 (by omega), rfl⟩, by rw [ht]; exact hP, va_K.moved hW.alike hK, hD⟩, hS.F ht⟩) hS.2.2 dX1_rowAt_27
  · skip
    refine lv_iload_n hx hb dX1_rowAt_9 rfl (lv_at hl 1 rfl) ?_
    refine lv_aload_n hx hb dX1_rowAt_10 rfl (lv_at hl 0 rfl) ?_
    refine va_get (D := (dC, dI)) (ci := 1) (v := .int (nI rs)) (C := RX1) (T := TX1) (N := 12) hx hb hts hin hown hK hP 0 rfl rfl 6 (by decide) kf50 (fun _ h9 => h9) rfl dX1_rowAt_11 ?_
    refine lv_icmp_ge (tgt := 26) hx hb dX1_rowAt_14 (by decide) (fun c_14 => ?_) (fun c_14 => ?_)
    · skip
      refine lv_iconst (v := (-1)) hx hb dX1_rowAt_26 (by decide) ?_
      exact W.iret (v := (-1)) hx hb hr (fun t ht hW => ⟨⟨(-1), (), rfl, Or.inr ⟨tn_ix3 c_14 (by omega), rfl⟩, by rw [ht]; exact hP, va_K.moved hW.alike hK, hD⟩, hS.F ht⟩) hS.2.2 dX1_rowAt_27
    · skip
      obtain ⟨k, hk, ex⟩ := tn_ix1 c_6 c_14 (by omega)
      subst ex
      refine lv_aload_n hx hb dX1_rowAt_17 rfl (lv_at hl 0 rfl) ?_
      refine va_get (D := (dC, dI)) (ci := 1) (v := .ref b5) (C := RX1) (T := TX1) (N := 12) hx hb hts hin hown hK hP 0 rfl rfl 7 (by decide) kf24 (fun _ h9 => h9) rfl dX1_rowAt_18 ?_
      refine lv_iload_n hx hb dX1_rowAt_21 rfl (lv_at hl 1 rfl) ?_
      refine tn_iald (i := k) (v := nI (rw k)) hx hb hK hP 5 0 rfl rfl (by omega) (by decide) rfl dX1_rowAt_22 ?_
      refine lv_goto (tgt := 27) hx hb dX1_rowAt_23 (by decide) ?_
      exact W.iret (v := nI (rw k)) hx hb hr (fun t ht hW => ⟨⟨nI (rw k), (), rfl, Or.inl ⟨k, hk, rfl, rfl⟩, by rw [ht]; exact hP, va_K.moved hW.alike hK, hD⟩, hS.F ht⟩) hS.2.2 dX1_rowAt_27
set_option maxHeartbeats 4000000 in
set_option maxRecDepth 100000 in
/-- length() -/
theorem cX1_length_ok (l : Launch) (dC : Nat → ClassId) (dI : Nat → Nat → Nat) (h b1 b2 b3 b4 b5 b6 : Nat) (cI cL cZ : ClassId) (th cnt : Nat) (fp sp : Nat → Nat) (mo : Nat → Int64) (on : Nat → Bool) (rs : Nat) (rw : Nat → Nat) (rl : Int64) (le : Nat → Int64) (bl : Int64) (bs : Int32) (sz : Nat) (hrs : rs ≤ 24) : Met l yX1_length wsX1_length ({ frames := 0, cells := 0, slots := 0, locals := 0 }) (va_Pc [.ref h] (tn_Pre dC dI (tn_tys cI cL cZ) (tm_ws h b1 b2 b3 b4 b5 b6 cI cL cZ th cnt fp sp mo on rs rw rl le bl bs) sz)) (va_Ql (S := Unit) (fun r _ => (rs = 0 ∧ r = 0) ∨ (rs ≠ 0 ∧ r = rl)) (fun u t => tn_at dC dI (tn_tys cI cL cZ) (va_A (tm_ws h b1 b2 b3 b4 b5 b6 cI cL cZ th cnt fp sp mo on rs rw rl le bl bs) sz) (tm_ws h b1 b2 b3 b4 b5 b6 cI cL cZ 0 cnt fp sp mo on rs rw rl le bl bs) t) (va_A (tm_ws h b1 b2 b3 b4 b5 b6 cI cL cZ th cnt fp sp mo on rs rw rl le bl bs) sz)) 0 0 (va_A (tm_ws h b1 b2 b3 b4 b5 b6 cI cL cZ th cnt fp sp mo on rs rw rl le bl bs) sz) := by
  refine Met.ofW (cc := cX1_length) (maxL := 1) (ret := (some .long)) (by decide) rfl ?_
  intro p e s m args below meth c s₁ B hml hv
  obtain ⟨rfl, hsz, hP, hK, hD0⟩ := hv
  have hx := B.exec
  have hb := B.bytes
  have hr := B.returns
  have hts := atoms_spec (ws := wsX1_length) B.pre
  have hown : s.vm.findClass RX1 = some m.cls := findClass_of_methodNamed B.named
  have hlocks := B.notSynchronized
  subst hsz
  have hD := hD0.self (sz := s.heap.size)
  generalize hAe : va_A (tm_ws h b1 b2 b3 b4 b5 b6 cI cL cZ th cnt fp sp mo on rs rw rl le bl bs) s.heap.size = A at hD ⊢
  have hA : ∀ q : Nat, s.heap.size ≤ q → A q := fun q h => by rw [← hAe]; exact Or.inr h
  have hS : va_S A s.heap s.heap [] := va_S.rf
  have hl := lv_entry ([.ref h]) (n := 1) (Nat.le_of_ble_eq_true rfl)
  rw [lg_entry_eq]
  generalize (lg_sl ([.ref h]) ++ List.replicate (1 - (lg_sl ([.ref h])).length) Slot.unset).toArray = ls at hl ⊢
  have hl : lv_has ls 1 [(0, .ref h)] := hl
  have kf30 := hts (.fieldLink RX1 30 "TimeNetModel" "thrown" "I") (by decide +kernel)
  have kf50 := hts (.fieldLink RX1 50 "TimeNetModel" "rowSize" "I") (by decide +kernel)
  have kf61 := hts (.fieldLink RX1 61 "TimeNetModel" "rowLength" "J") (by decide +kernel)
  have hin : ∀ w ∈ u_ws RX1 TX1 12, w ∈ wsX1_length := by decide +kernel
  refine lv_aload_n hx hb dX1_length_0 rfl (lv_at hl 0 rfl) ?_
  refine lv_iconst (v := nI 0) hx hb dX1_length_1 (by decide) ?_
  refine va_put (D := (dC, dI)) (ci := 1) (v := .int (nI 0)) (ty := .int) (C := RX1) (T := TX1) (N := 12) hx hb hts hin tyX1 tyX1_ok nmX1 hown hK hP hD hS 0 rfl rfl 0 (by decide) kf30 (fun _ h9 => h9) rfl (by decide +kernel) rfl rfl (Nat.le_of_ble_eq_true rfl) dX1_length_2 (fun H locs hP hD hS => ?_)
  have hP : va_P (dC, dI) vwCl (tm_ws h b1 b2 b3 b4 b5 b6 cI cL cZ 0 cnt fp sp mo on rs rw rl le bl bs) H := hP
  have hD : va_D A (tm_ws h b1 b2 b3 b4 b5 b6 cI cL cZ 0 cnt fp sp mo on rs rw rl le bl bs) := hD
  refine lv_aload_n hx hb dX1_length_5 rfl (lv_at hl 0 rfl) ?_
  refine va_get (D := (dC, dI)) (ci := 1) (v := .int (nI rs)) (C := RX1) (T := TX1) (N := 12) hx hb hts hin hown hK hP 0 rfl rfl 6 (by decide) kf50 (fun _ h9 => h9) rfl dX1_length_6 ?_
  refine lv_if_ne (tgt := 16) hx hb dX1_length_9 (by decide) (fun c_9 => ?_) (fun c_9 => ?_)
  · skip
    have hrz : rs ≠ 0 := fun q => c_9 (by rw [q]; decide)
    refine lv_aload_n hx hb dX1_length_16 rfl (lv_at hl 0 rfl) ?_
    refine va_get (D := (dC, dI)) (ci := 1) (v := .long rl) (C := RX1) (T := TX1) (N := 12) hx hb hts hin hown hK hP 0 rfl rfl 8 (by decide) kf61 (fun _ h9 => h9) rfl dX1_length_17 ?_
    exact W.lret (v := rl) hx hb hr (fun t ht hW => ⟨⟨rl, (), rfl, Or.inr ⟨hrz, rfl⟩, by rw [ht]; exact hP, va_K.moved hW.alike hK, hD⟩, hS.F ht⟩) hS.2.2 dX1_length_20
  · skip
    have hrz : rs = 0 := (nI_eq (by omega) (by omega)).mp (show nI rs = nI 0 from c_9)
    refine lv_lconst (v := 0) hx hb dX1_length_12 (by decide) ?_
    refine lv_goto (tgt := 20) hx hb dX1_length_13 (by decide) ?_
    exact W.lret (v := 0) hx hb hr (fun t ht hW => ⟨⟨0, (), rfl, Or.inl ⟨hrz, rfl⟩, by rw [ht]; exact hP, va_K.moved hW.alike hK, hD⟩, hS.F ht⟩) hS.2.2 dX1_length_20
set_option maxHeartbeats 4000000 in
set_option maxRecDepth 100000 in
/-- slack(x) -/
theorem cX1_slack_ok (l : Launch) (dC : Nat → ClassId) (dI : Nat → Nat → Nat) (h b1 b2 b3 b4 b5 b6 : Nat) (cI cL cZ : ClassId) (th cnt : Nat) (fp sp : Nat → Nat) (mo : Nat → Int64) (on : Nat → Bool) (rs : Nat) (rw : Nat → Nat) (rl : Int64) (le : Nat → Int64) (bl : Int64) (bs : Int32) (sz : Nat) (g : tn_good cnt fp sp mo) (ok : tn_ok (tn_E cnt fp sp mo on)) (x : Int32) : Met l yX1_slack wsX1_slack ({ frames := 1, cells := 0, slots := 0, locals := 26 }) (va_Pc [.ref h, .int x] (tn_Pre dC dI (tn_tys cI cL cZ) (tm_ws h b1 b2 b3 b4 b5 b6 cI cL cZ th cnt fp sp mo on rs rw rl le bl bs) sz)) (va_Ql (S := (Nat → Int64) × Int64 × Int32) (fun r _ => sp_slack cnt fp sp mo on x r) (fun u t => tn_at dC dI (tn_tys cI cL cZ) (va_A (tm_ws h b1 b2 b3 b4 b5 b6 cI cL cZ th cnt fp sp mo on rs rw rl le bl bs) sz) (tm_ws h b1 b2 b3 b4 b5 b6 cI cL cZ 0 cnt fp sp mo on rs rw rl u.1 u.2.1 u.2.2) t) (va_A (tm_ws h b1 b2 b3 b4 b5 b6 cI cL cZ th cnt fp sp mo on rs rw rl le bl bs) sz)) 0 0 (va_A (tm_ws h b1 b2 b3 b4 b5 b6 cI cL cZ th cnt fp sp mo on rs rw rl le bl bs) sz) := by
  refine Met.ofW (cc := cX1_slack) (maxL := 2) (ret := (some .long)) (by decide) rfl ?_
  intro p e s m args below meth c s₁ B hml hv
  obtain ⟨rfl, hsz, hP, hK, hD0⟩ := hv
  have hx := B.exec
  have hb := B.bytes
  have hr := B.returns
  have hts := atoms_spec (ws := wsX1_slack) B.pre
  have hown : s.vm.findClass RX1 = some m.cls := findClass_of_methodNamed B.named
  have hlocks := B.notSynchronized
  subst hsz
  have hD := hD0.self (sz := s.heap.size)
  generalize hAe : va_A (tm_ws h b1 b2 b3 b4 b5 b6 cI cL cZ th cnt fp sp mo on rs rw rl le bl bs) s.heap.size = A at hD ⊢
  have hA : ∀ q : Nat, s.heap.size ≤ q → A q := fun q h => by rw [← hAe]; exact Or.inr h
  have hS : va_S A s.heap s.heap [] := va_S.rf
  have hl := lv_entry ([.ref h, .int x]) (n := 2) (Nat.le_of_ble_eq_true rfl)
  rw [lg_entry_eq]
  generalize (lg_sl ([.ref h, .int x]) ++ List.replicate (2 - (lg_sl ([.ref h, .int x])).length) Slot.unset).toArray = ls at hl ⊢
  have hl : lv_has ls 2 [(0, .ref h), (1, .int x)] := hl
  have kf30 := hts (.fieldLink RX1 30 "TimeNetModel" "thrown" "I") (by decide +kernel)
  have kf20 := hts (.fieldLink RX1 20 "TimeNetModel" "isOn" "[Z") (by decide +kernel)
  have kf7 := hts (.fieldLink RX1 7 "TimeNetModel" "first" "[I") (by decide +kernel)
  have kf13 := hts (.fieldLink RX1 13 "TimeNetModel" "second" "[I") (by decide +kernel)
  have kc81 := hts (.constantLong RX1 81 (-1)) (by decide +kernel)
  have kf16 := hts (.fieldLink RX1 16 "TimeNetModel" "c" "[J") (by decide +kernel)
  have kf42 := hts (.fieldLink RX1 42 "TimeNetModel" "bestLength" "J") (by decide +kernel)
  have hin : ∀ w ∈ u_ws RX1 TX1 12, w ∈ wsX1_slack := by decide +kernel
  have hc := g.1
  refine lv_aload_n hx hb dX1_slack_0 rfl (lv_at hl 0 rfl) ?_
  refine lv_iconst (v := nI 0) hx hb dX1_slack_1 (by decide) ?_
  refine va_put (D := (dC, dI)) (ci := 1) (v := .int (nI 0)) (ty := .int) (C := RX1) (T := TX1) (N := 12) hx hb hts hin tyX1 tyX1_ok nmX1 hown hK hP hD hS 0 rfl rfl 0 (by decide) kf30 (fun _ h9 => h9) rfl (by decide +kernel) rfl rfl (Nat.le_of_ble_eq_true rfl) dX1_slack_2 (fun H locs hP hD hS => ?_)
  have hP : va_P (dC, dI) vwCl (tm_ws h b1 b2 b3 b4 b5 b6 cI cL cZ 0 cnt fp sp mo on rs rw rl le bl bs) H := hP
  have hD : va_D A (tm_ws h b1 b2 b3 b4 b5 b6 cI cL cZ 0 cnt fp sp mo on rs rw rl le bl bs) := hD
  refine lv_aload_n hx hb dX1_slack_5 rfl (lv_at hl 0 rfl) ?_
  refine lv_iload_n hx hb dX1_slack_6 rfl (lv_at hl 1 rfl) ?_
  have hF := tn_freeA hD hS hA
  refine va_calli (va_runV (As := [.int x]) (rest := []) ⟨hx, hb, hml, hown, hts⟩ (cX1_isThere_ok l dC dI h b1 b2 b3 b4 b5 b6 cI cL cZ 0 cnt fp sp mo on rs rw rl le bl bs H.size hc x) (cwV 1 hts gX1_slack_X1_isThere rfl rfl rfl (by decide +kernel) ⟨Nat.le_of_ble_eq_true rfl, Nat.le_of_ble_eq_true rfl⟩) (tn_preV hK hP hD (ci := 1) rfl 0 rfl) rfl rfl hl.1 rfl (lv_room (Nat.le_of_ble_eq_true rfl)) dX1_slack_7 ⟨Nat.le_of_ble_eq_true rfl, Nat.le_of_ble_eq_true rfl⟩) hS (fun q _ h => hF q h) hF (fun r_7 u_7 t H1 locs ht hvm hw_7 hB hz1 hk1 hS => ?_)
  obtain ⟨hP1, -, hD1⟩ := hB
  rw [ht] at hP1
  have hD := hD1.weaken (fun _ q _ hq => hF q.1 hq)
  clear hP hk1 hF hz1 ht hvm hD1
  generalize H1 = H at hP1 hS ⊢
  have hP := hP1
  clear hP1
  refine lv_if_eq (tgt := 41) hx hb dX1_slack_10 (by decide) (fun c_10 => ?_) (fun c_10 => ?_)
  · skip
    have hn_7 : ∀ j, j < cnt → x ≠ nI j := by
      rcases hw_7 with ⟨q, _⟩ | ⟨_, q⟩
      · exact absurd (q ▸ c_10 : nI 1 = 0) (by decide)
      · exact q
    refine lv_ldc2 (v := (-1)) hx hb hown kc81 dX1_slack_41 ?_
    exact W.lret (v := (-1)) hx hb hr (fun t ht hW => ⟨⟨(-1), (le, bl, bs), rfl, Or.inr ⟨fun k hk e => absurd e (hn_7 k hk), rfl⟩, by rw [ht]; exact hP, va_K.moved hW.alike hK, hD⟩, hS.F ht⟩) hS.2.2 dX1_slack_44
  · skip
    obtain ⟨k, hk, ex⟩ : ∃ j, j < cnt ∧ x = nI j := by
      rcases hw_7 with ⟨_, q⟩ | ⟨q, _⟩
      · exact q
      · exact absurd (q : r_7 = 0) c_10
    subst ex
    refine lv_aload_n hx hb dX1_slack_13 rfl (lv_at hl 0 rfl) ?_
    refine va_get (D := (dC, dI)) (ci := 1) (v := .ref b4) (C := RX1) (T := TX1) (N := 12) hx hb hts hin hown hK hP 0 rfl rfl 5 (by decide) kf20 (fun _ h9 => h9) rfl dX1_slack_14 ?_
    refine lv_iload_n hx hb dX1_slack_17 rfl (lv_at hl 1 rfl) ?_
    refine tn_zald (i := k) (v := tn_b (on k)) hx hb hK hP 4 2 rfl rfl (by omega) (by decide) rfl dX1_slack_18 ?_
    refine lv_if_eq (tgt := 41) hx hb dX1_slack_19 (by decide) (fun c_19 => ?_) (fun c_19 => ?_)
    · skip
      have ho := tn_b_eq0 c_19
      refine lv_ldc2 (v := (-1)) hx hb hown kc81 dX1_slack_41 ?_
      exact W.lret (v := (-1)) hx hb hr (fun t ht hW => ⟨⟨(-1), (le, bl, bs), rfl, Or.inr ⟨fun k2 hk2 e => by rw [(nI_eq (by omega) (by omega)).mp e] at ho; exact ho, rfl⟩, by rw [ht]; exact hP, va_K.moved hW.alike hK, hD⟩, hS.F ht⟩) hS.2.2 dX1_slack_44
    · skip
      have ho := tn_b_ne0 c_19
      have hk0 := (g.2 k hk).1
      have hk1 := (g.2 k hk).2.1
      have hk4 := g.2 k hk
      refine lv_aload_n hx hb dX1_slack_22 rfl (lv_at hl 0 rfl) ?_
      refine lv_aload_n hx hb dX1_slack_23 rfl (lv_at hl 0 rfl) ?_
      refine va_get (D := (dC, dI)) (ci := 1) (v := .ref b1) (C := RX1) (T := TX1) (N := 12) hx hb hts hin hown hK hP 0 rfl rfl 2 (by decide) kf7 (fun _ h9 => h9) rfl dX1_slack_24 ?_
      refine lv_iload_n hx hb dX1_slack_27 rfl (lv_at hl 1 rfl) ?_
      refine tn_iald (i := k) (v := nI (fp k)) hx hb hK hP 1 0 rfl rfl (by omega) (by decide) rfl dX1_slack_28 ?_
      refine lv_aload_n hx hb dX1_slack_29 rfl (lv_at hl 0 rfl) ?_
      refine va_get (D := (dC, dI)) (ci := 1) (v := .ref b2) (C := RX1) (T := TX1) (N := 12) hx hb hts hin hown hK hP 0 rfl rfl 3 (by decide) kf13 (fun _ h9 => h9) rfl dX1_slack_30 ?_
      refine lv_iload_n hx hb dX1_slack_33 rfl (lv_at hl 1 rfl) ?_
      refine tn_iald (i := k) (v := nI (sp k)) hx hb hK hP 2 0 rfl rfl (by omega) (by decide) rfl dX1_slack_34 ?_
      have hF := tn_freeA hD hS hA
      refine va_calli (va_runV (As := [.int (nI (fp k)), .int (nI (sp k))]) (rest := []) ⟨hx, hb, hml, hown, hts⟩ (cX1_best_ok l dC dI h b1 b2 b3 b4 b5 b6 cI cL cZ 0 cnt fp sp mo on rs rw rl le bl bs H.size g ok (fp k) hk0 (sp k) hk1) (cwV 2 hts gX1_slack_X1_best rfl rfl rfl (by decide +kernel) ⟨Nat.le_of_ble_eq_true rfl, Nat.le_of_ble_eq_true rfl⟩) (tn_preV hK hP hD (ci := 1) rfl 0 rfl) rfl rfl hl.1 rfl (lv_room (Nat.le_of_ble_eq_true rfl)) dX1_slack_35 ⟨Nat.le_of_ble_eq_true rfl, Nat.le_of_ble_eq_true rfl⟩) hS (fun q _ h => hF q h) hF (fun r_35 u_35 t H1 locs ht hvm hw_35 hB hz1 hk1 hS => ?_)
      obtain ⟨hP1, -, hD1⟩ := hB
      rw [ht] at hP1
      have hD := hD1.weaken (fun _ q _ hq => hF q.1 hq)
      clear hP hk1 hF hz1 ht hvm hD1
      generalize H1 = H at hP1 hS ⊢
      have hP := hP1
      clear hP1
      refine lv_if_ne (tgt := 45) hx hb dX1_slack_38 (by decide) (fun c_38 => ?_) (fun c_38 => ?_)
      · skip
        have hz : r_35 = nI 1 := by
          rcases hw_35.2 with ⟨q, _⟩ | ⟨q, _⟩
          · exact absurd (q : r_35 = 0) c_38
          · exact q
        obtain ⟨n0, hn0, hbs, hbl, hbx, hbe⟩ : ∃ n, n ≤ 19 ∧ u_35.2.2 = nI n ∧ u_35.2.1 = u_35.1 (20 * n + (fp k)) ∧ u_35.2.1 ≠ tn_MX ∧ tn_best (tn_E cnt fp sp mo on) (fp k) (sp k) u_35.2.1.toInt n := by
          rcases hw_35.2 with ⟨q, _⟩ | ⟨_, q⟩
          · exact absurd (q : r_35 = 0) c_38
          · exact q
        refine lv_aload_n hx hb dX1_slack_45 rfl (lv_at hl 0 rfl) ?_
        refine va_get (D := (dC, dI)) (ci := 1) (v := .ref b3) (C := RX1) (T := TX1) (N := 12) hx hb hts hin hown hK hP 0 rfl rfl 4 (by decide) kf16 (fun _ h9 => h9) rfl dX1_slack_46 ?_
        refine lv_iload_n hx hb dX1_slack_49 rfl (lv_at hl 1 rfl) ?_
        refine tn_lald (i := k) (v := mo k) hx hb hK hP 3 1 rfl rfl (by omega) (by decide) rfl dX1_slack_50 ?_
        refine lv_aload_n hx hb dX1_slack_51 rfl (lv_at hl 0 rfl) ?_
        refine va_get (D := (dC, dI)) (ci := 1) (v := .long u_35.2.1) (C := RX1) (T := TX1) (N := 12) hx hb hts hin hown hK hP 0 rfl rfl 10 (by decide) kf42 (fun _ h9 => h9) rfl dX1_slack_52 ?_
        refine lv_lsub hx hb dX1_slack_55 ?_
        exact W.lret (v := (mo k) - u_35.2.1) hx hb hr (fun t ht hW => ⟨⟨(mo k) - u_35.2.1, (u_35.1, u_35.2.1, u_35.2.2), rfl, Or.inl ⟨k, _, n0, hk, rfl, ho, hbe, tm_sub (tn_E_bd g) hn0 hbe hk4.2.2.1 hk4.2.2.2⟩, by rw [ht]; exact hP, va_K.moved hW.alike hK, hD⟩, hS.F ht⟩) hS.2.2 dX1_slack_56
      · skip
        exact absurd (tn_wk_one (E := tn_E cnt fp sp mo on) (i := fp k) (j := sp k) (c := (mo k).toInt) ⟨k, hk, ho, rfl, rfl, rfl⟩) (by
          rcases hw_35.2 with ⟨_, _, _, q⟩ | ⟨q, _⟩
          · exact q _ _
          · exact absurd (q.symm.trans c_38 : nI 1 = 0) (by decide))
set_option maxHeartbeats 4000000 in
set_option maxRecDepth 100000 in
/-- alive() -/
theorem cX1_alive_ok (l : Launch) (dC : Nat → ClassId) (dI : Nat → Nat → Nat) (h b1 b2 b3 b4 b5 b6 : Nat) (cI cL cZ : ClassId) (th cnt : Nat) (fp sp : Nat → Nat) (mo : Nat → Int64) (on : Nat → Bool) (rs : Nat) (rw : Nat → Nat) (rl : Int64) (le : Nat → Int64) (bl : Int64) (bs : Int32) (sz : Nat) (hc : cnt ≤ 120) : Met l yX1_alive wsX1_alive ({ frames := 0, cells := 0, slots := 0, locals := 0 }) (va_Pc [.ref h] (tn_Pre dC dI (tn_tys cI cL cZ) (tm_ws h b1 b2 b3 b4 b5 b6 cI cL cZ th cnt fp sp mo on rs rw rl le bl bs) sz)) (va_Qi (S := Unit) (fun r _ => r = nI (tn_cn on cnt)) (fun u t => tn_at dC dI (tn_tys cI cL cZ) (va_A (tm_ws h b1 b2 b3 b4 b5 b6 cI cL cZ th cnt fp sp mo on rs rw rl le bl bs) sz) (tm_ws h b1 b2 b3 b4 b5 b6 cI cL cZ 0 cnt fp sp mo on rs rw rl le bl bs) t) (va_A (tm_ws h b1 b2 b3 b4 b5 b6 cI cL cZ th cnt fp sp mo on rs rw rl le bl bs) sz)) 0 0 (va_A (tm_ws h b1 b2 b3 b4 b5 b6 cI cL cZ th cnt fp sp mo on rs rw rl le bl bs) sz) := by
  refine Met.ofW (cc := cX1_alive) (maxL := 3) (ret := (some .int)) (by decide) rfl ?_
  intro p e s m args below meth c s₁ B hml hv
  obtain ⟨rfl, hsz, hP, hK, hD0⟩ := hv
  have hx := B.exec
  have hb := B.bytes
  have hr := B.returns
  have hts := atoms_spec (ws := wsX1_alive) B.pre
  have hown : s.vm.findClass RX1 = some m.cls := findClass_of_methodNamed B.named
  have hlocks := B.notSynchronized
  subst hsz
  have hD := hD0.self (sz := s.heap.size)
  generalize hAe : va_A (tm_ws h b1 b2 b3 b4 b5 b6 cI cL cZ th cnt fp sp mo on rs rw rl le bl bs) s.heap.size = A at hD ⊢
  have hA : ∀ q : Nat, s.heap.size ≤ q → A q := fun q h => by rw [← hAe]; exact Or.inr h
  have hS : va_S A s.heap s.heap [] := va_S.rf
  have hl := lv_entry ([.ref h]) (n := 3) (Nat.le_of_ble_eq_true rfl)
  rw [lg_entry_eq]
  generalize (lg_sl ([.ref h]) ++ List.replicate (3 - (lg_sl ([.ref h])).length) Slot.unset).toArray = ls at hl ⊢
  have hl : lv_has ls 3 [(0, .ref h)] := hl
  have kf30 := hts (.fieldLink RX1 30 "TimeNetModel" "thrown" "I") (by decide +kernel)
  have kf34 := hts (.fieldLink RX1 34 "TimeNetModel" "size" "I") (by decide +kernel)
  have kf20 := hts (.fieldLink RX1 20 "TimeNetModel" "isOn" "[Z") (by decide +kernel)
  have hin : ∀ w ∈ u_ws RX1 TX1 12, w ∈ wsX1_alive := by decide +kernel
  have loop : ∀ (n : Nat) (k : Nat) (z : Nat) (H : Heap) (locs : List Loc) (ls : Array Slot), (k ≤ cnt) → (cnt < k + n) → (tn_cn on k = z) → va_P (dC, dI) vwCl (tm_ws h b1 b2 b3 b4 b5 b6 cI cL cZ 0 cnt fp sp mo on rs rw rl le bl bs) H → va_D A (tm_ws h b1 b2 b3 b4 b5 b6 cI cL cZ 0 cnt fp sp mo on rs rw rl le bl bs) → va_S A s.heap H locs → lv_has ls 3 [(0, .ref h), (1, .int (nI z)), (2, .int (nI k))] → W p l e (headSpec wsX1_alive ({ frames := 0, cells := 0, slots := 0, locals := 0 })).room s m ([.ref h] : List Value).toArray below meth c H locs 0 0 (MQ below (va_Qi (S := Unit) (fun r _ => r = nI (tn_cn on cnt)) (fun u t => tn_at dC dI (tn_tys cI cL cZ) A (tm_ws h b1 b2 b3 b4 b5 b6 cI cL cZ 0 cnt fp sp mo on rs rw rl le bl bs) t) A) (([.ref h] : List Value).toArray) s 0 0 A) (F0 m 9 ls []) := by
    intro n
    induction n with
    | zero => intro k z H locs ls hk1 hk2 hz _ _ _ _; exact absurd hk2 (by omega)
    | succ n ih_loop =>
      intro k z H locs ls hk1 hk2 hz hP hD hS hl
      refine lv_iload_n hx hb dX1_alive_9 rfl (lv_at hl 2 rfl) ?_
      refine lv_aload_n hx hb dX1_alive_10 rfl (lv_at hl 0 rfl) ?_
      refine va_get (D := (dC, dI)) (ci := 1) (v := .int (nI cnt)) (C := RX1) (T := TX1) (N := 12) hx hb hts hin hown hK hP 0 rfl rfl 1 (by decide) kf34 (fun _ h9 => h9) rfl dX1_alive_11 ?_
      refine lv_icmp_ge (tgt := 40) hx hb dX1_alive_14 (by decide) (fun c_14 => ?_) (fun c_14 => ?_)
      · skip
        have hkc : k = cnt := Nat.le_antisymm hk1 ((nI_leI (by omega) (by omega)).mp c_14)
        subst hkc
        refine lv_iload_n hx hb dX1_alive_40 rfl (lv_at hl 1 rfl) ?_
        exact W.iret (v := nI z) hx hb hr (fun t ht hW => ⟨⟨nI z, (), rfl, (show nI z = nI (tn_cn on k) by rw [hz]), by rw [ht]; exact hP, va_K.moved hW.alike hK, hD⟩, hS.F ht⟩) hS.2.2 dX1_alive_41
      · skip
        have hkc : k < cnt := Nat.lt_of_not_le (fun q => c_14 (nI_le q (by omega)))
        refine lv_iload_n hx hb dX1_alive_17 rfl (lv_at hl 1 rfl) ?_
        refine lv_aload_n hx hb dX1_alive_18 rfl (lv_at hl 0 rfl) ?_
        refine va_get (D := (dC, dI)) (ci := 1) (v := .ref b4) (C := RX1) (T := TX1) (N := 12) hx hb hts hin hown hK hP 0 rfl rfl 5 (by decide) kf20 (fun _ h9 => h9) rfl dX1_alive_19 ?_
        refine lv_iload_n hx hb dX1_alive_22 rfl (lv_at hl 2 rfl) ?_
        refine tn_zald (i := k) (v := tn_b (on k)) hx hb hK hP 4 2 rfl rfl (by omega) (by decide) rfl dX1_alive_23 ?_
        refine lv_if_eq (tgt := 31) hx hb dX1_alive_24 (by decide) (fun c_24 => ?_) (fun c_24 => ?_)
        · skip
          have ho := tn_b_eq0 c_24
          refine lv_iconst (v := nI 0) hx hb dX1_alive_31 (by decide) ?_
          refine tn_iadd (a := z) (b := 0) hx hb dX1_alive_32 ?_
          refine lv_istore_n (lv' := [(1, .int (nI (z + 0))), (0, .ref h), (2, .int (nI k))]) hx hb dX1_alive_33 rfl hl (by decide) rfl (fun ls hl => ?_)
          refine lv_iinc (v := nI (k + 1)) (lv' := [(2, .int (nI (k + 1))), (1, .int (nI (z + 0))), (0, .ref h)]) hx hb dX1_alive_34 hl (k := 2) rfl (tn_inc k) (by decide) rfl (fun ls hl => ?_)
          refine lv_goto (tgt := 9) hx hb dX1_alive_37 (by decide) ?_
          exact ih_loop (k + 1) (z + 0) _ _ _ hkc (by omega) (by rw [tn_cn, hz, ho]; rfl) hP hD hS (lv_sub hl [2, 1, 0] rfl)
        · skip
          have ho := tn_b_ne0 c_24
          refine lv_iconst (v := nI 1) hx hb dX1_alive_27 (by decide) ?_
          refine lv_goto (tgt := 32) hx hb dX1_alive_28 (by decide) ?_
          refine tn_iadd (a := z) (b := 1) hx hb dX1_alive_32 ?_
          refine lv_istore_n (lv' := [(1, .int (nI (z + 1))), (0, .ref h), (2, .int (nI k))]) hx hb dX1_alive_33 rfl hl (by decide) rfl (fun ls hl => ?_)
          refine lv_iinc (v := nI (k + 1)) (lv' := [(2, .int (nI (k + 1))), (1, .int (nI (z + 1))), (0, .ref h)]) hx hb dX1_alive_34 hl (k := 2) rfl (tn_inc k) (by decide) rfl (fun ls hl => ?_)
          refine lv_goto (tgt := 9) hx hb dX1_alive_37 (by decide) ?_
          exact ih_loop (k + 1) (z + 1) _ _ _ hkc (by omega) (by rw [tn_cn, hz, ho]; rfl) hP hD hS (lv_sub hl [2, 1, 0] rfl)
  refine lv_aload_n hx hb dX1_alive_0 rfl (lv_at hl 0 rfl) ?_
  refine lv_iconst (v := nI 0) hx hb dX1_alive_1 (by decide) ?_
  refine va_put (D := (dC, dI)) (ci := 1) (v := .int (nI 0)) (ty := .int) (C := RX1) (T := TX1) (N := 12) hx hb hts hin tyX1 tyX1_ok nmX1 hown hK hP hD hS 0 rfl rfl 0 (by decide) kf30 (fun _ h9 => h9) rfl (by decide +kernel) rfl rfl (Nat.le_of_ble_eq_true rfl) dX1_alive_2 (fun H locs hP hD hS => ?_)
  have hP : va_P (dC, dI) vwCl (tm_ws h b1 b2 b3 b4 b5 b6 cI cL cZ 0 cnt fp sp mo on rs rw rl le bl bs) H := hP
  have hD : va_D A (tm_ws h b1 b2 b3 b4 b5 b6 cI cL cZ 0 cnt fp sp mo on rs rw rl le bl bs) := hD
  refine lv_iconst (v := nI 0) hx hb dX1_alive_5 (by decide) ?_
  refine lv_istore_n (lv' := [(1, .int (nI 0)), (0, .ref h)]) hx hb dX1_alive_6 rfl hl (by decide) rfl (fun ls hl => ?_)
  refine lv_iconst (v := nI 0) hx hb dX1_alive_7 (by decide) ?_
  refine lv_istore_n (lv' := [(2, .int (nI 0)), (1, .int (nI 0)), (0, .ref h)]) hx hb dX1_alive_8 rfl hl (by decide) rfl (fun ls hl => ?_)
  exact loop (cnt + 1) 0 0 _ _ _ (Nat.zero_le _) (by omega) rfl hP hD hS (lv_sub hl [2, 1, 0] rfl)
