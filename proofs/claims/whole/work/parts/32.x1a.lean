theorem tm_fill {sv v : Nat} {le : Nat → Int64} (h : ∀ z, z < v → le (20 * (sv + 1) + z) = tn_MX) : ∀ z, z < v + 1 → vp_updL le (20 * (sv + 1) + v) tn_MX (20 * (sv + 1) + z) = tn_MX := by
  intro z hz
  rcases Nat.lt_or_ge z v with q | q
  · exact (pk_uLn (by omega)).trans (h z q)
  · have : z = v := by omega
    subst this
    exact pk_uLs
theorem tm_A0 {v j : Nat} {le : Nat → Int64} {x : Int64} (h : ∀ z, z < v → le z = if z = j then 0 else tn_MX) (hx : x = if v = j then 0 else tn_MX) : ∀ z, z < v + 1 → vp_updL le v x z = if z = j then 0 else tn_MX := by
  intro z hz
  rcases Nat.lt_or_ge z v with q | q
  · exact (pk_uLn (by omega)).trans (h z q)
  · have : z = v := by omega
    subst this
    exact pk_uLs.trans hx
set_option maxHeartbeats 4000000 in
set_option maxRecDepth 100000 in
/-- isPoint(x): whether x is one of 0 .. 19 -/
theorem cX1_isPoint_ok (l : Launch) (dC : Nat → ClassId) (dI : Nat → Nat → Nat) (h b1 b2 b3 b4 b5 b6 : Nat) (cI cL cZ : ClassId) (th cnt : Nat) (fp sp : Nat → Nat) (mo : Nat → Int64) (on : Nat → Bool) (rs : Nat) (rw : Nat → Nat) (rl : Int64) (le : Nat → Int64) (bl : Int64) (bs : Int32) (sz : Nat) (x : Int32) : Met l yX1_isPoint wsX1_isPoint ({ frames := 0, cells := 0, slots := 0, locals := 0 }) (va_Pc [.int x] (tn_Pre dC dI (tn_tys cI cL cZ) (tm_ws h b1 b2 b3 b4 b5 b6 cI cL cZ th cnt fp sp mo on rs rw rl le bl bs) sz)) (va_Qi (S := Unit) (fun r _ => (r = nI 1 ∧ ∃ j, j < 20 ∧ x = nI j) ∨ (r = nI 0 ∧ ∀ j, j < 20 → x ≠ nI j)) (fun u t => tn_at dC dI (tn_tys cI cL cZ) (va_A (tm_ws h b1 b2 b3 b4 b5 b6 cI cL cZ th cnt fp sp mo on rs rw rl le bl bs) sz) (tm_ws h b1 b2 b3 b4 b5 b6 cI cL cZ th cnt fp sp mo on rs rw rl le bl bs) t) (va_A (tm_ws h b1 b2 b3 b4 b5 b6 cI cL cZ th cnt fp sp mo on rs rw rl le bl bs) sz)) 0 0 (va_A (tm_ws h b1 b2 b3 b4 b5 b6 cI cL cZ th cnt fp sp mo on rs rw rl le bl bs) sz) := by
  refine Met.ofW (cc := cX1_isPoint) (maxL := 1) (ret := (some .boolean)) (by decide) rfl ?_
  intro p e s m args below meth c s₁ B hml hv
  obtain ⟨rfl, hsz, hP, hK, hD0⟩ := hv
  have hx := B.exec
  have hb := B.bytes
  have hr := B.returns
  have hts := atoms_spec (ws := wsX1_isPoint) B.pre
  have hown : s.vm.findClass RX1 = some m.cls := findClass_of_methodNamed B.named
  have hlocks := B.notSynchronized
  subst hsz
  have hD := hD0.self (sz := s.heap.size)
  generalize hAe : va_A (tm_ws h b1 b2 b3 b4 b5 b6 cI cL cZ th cnt fp sp mo on rs rw rl le bl bs) s.heap.size = A at hD ⊢
  have hA : ∀ q : Nat, s.heap.size ≤ q → A q := fun q h => by rw [← hAe]; exact Or.inr h
  have hS : va_S A s.heap s.heap [] := va_S.rf
  have hl := lv_entry ([.int x]) (n := 1) (Nat.le_of_ble_eq_true rfl)
  rw [lg_entry_eq]
  generalize (lg_sl ([.int x]) ++ List.replicate (1 - (lg_sl ([.int x])).length) Slot.unset).toArray = ls at hl ⊢
  have hl : lv_has ls 1 [(0, .int x)] := hl
  refine lv_iload_n hx hb dX1_isPoint_0 rfl (lv_at hl 0 rfl) ?_
  refine lv_if_lt (tgt := 14) hx hb dX1_isPoint_1 (by decide) (fun c_1 => ?_) (fun c_1 => ?_)
  · skip
    refine lv_iconst (v := nI 0) hx hb dX1_isPoint_14 (by decide) ?_
    exact W.zret (v := nI 0) hx hb hr rfl (fun t ht hW => ⟨⟨nI 0, (), rfl, Or.inr ⟨rfl, tn_ix2 c_1 (by decide)⟩, by rw [ht]; exact hP, va_K.moved hW.alike hK, hD⟩, hS.F ht⟩) hS.2.2 dX1_isPoint_15
  · skip
    refine lv_iload_n hx hb dX1_isPoint_4 rfl (lv_at hl 0 rfl) ?_
    refine lv_bipush (v := nI 20) hx hb dX1_isPoint_5 (by decide) ?_
    refine lv_icmp_ge (tgt := 14) hx hb dX1_isPoint_7 (by decide) (fun c_7 => ?_) (fun c_7 => ?_)
    · skip
      refine lv_iconst (v := nI 0) hx hb dX1_isPoint_14 (by decide) ?_
      exact W.zret (v := nI 0) hx hb hr rfl (fun t ht hW => ⟨⟨nI 0, (), rfl, Or.inr ⟨rfl, tn_ix3 c_7 (by decide)⟩, by rw [ht]; exact hP, va_K.moved hW.alike hK, hD⟩, hS.F ht⟩) hS.2.2 dX1_isPoint_15
    · skip
      refine lv_iconst (v := nI 1) hx hb dX1_isPoint_10 (by decide) ?_
      refine lv_goto (tgt := 15) hx hb dX1_isPoint_11 (by decide) ?_
      exact W.zret (v := nI 1) hx hb hr rfl (fun t ht hW => ⟨⟨nI 1, (), rfl, Or.inl ⟨rfl, tn_ix1 c_1 c_7 (by decide)⟩, by rw [ht]; exact hP, va_K.moved hW.alike hK, hD⟩, hS.F ht⟩) hS.2.2 dX1_isPoint_15
set_option maxHeartbeats 4000000 in
set_option maxRecDepth 100000 in
/-- isThere(x): whether x is the number of a constraint -/
theorem cX1_isThere_ok (l : Launch) (dC : Nat → ClassId) (dI : Nat → Nat → Nat) (h b1 b2 b3 b4 b5 b6 : Nat) (cI cL cZ : ClassId) (th cnt : Nat) (fp sp : Nat → Nat) (mo : Nat → Int64) (on : Nat → Bool) (rs : Nat) (rw : Nat → Nat) (rl : Int64) (le : Nat → Int64) (bl : Int64) (bs : Int32) (sz : Nat) (hc : cnt ≤ 120) (x : Int32) : Met l yX1_isThere wsX1_isThere ({ frames := 0, cells := 0, slots := 0, locals := 0 }) (va_Pc [.ref h, .int x] (tn_Pre dC dI (tn_tys cI cL cZ) (tm_ws h b1 b2 b3 b4 b5 b6 cI cL cZ th cnt fp sp mo on rs rw rl le bl bs) sz)) (va_Qi (S := Unit) (fun r _ => (r = nI 1 ∧ ∃ j, j < cnt ∧ x = nI j) ∨ (r = nI 0 ∧ ∀ j, j < cnt → x ≠ nI j)) (fun u t => tn_at dC dI (tn_tys cI cL cZ) (va_A (tm_ws h b1 b2 b3 b4 b5 b6 cI cL cZ th cnt fp sp mo on rs rw rl le bl bs) sz) (tm_ws h b1 b2 b3 b4 b5 b6 cI cL cZ th cnt fp sp mo on rs rw rl le bl bs) t) (va_A (tm_ws h b1 b2 b3 b4 b5 b6 cI cL cZ th cnt fp sp mo on rs rw rl le bl bs) sz)) 0 0 (va_A (tm_ws h b1 b2 b3 b4 b5 b6 cI cL cZ th cnt fp sp mo on rs rw rl le bl bs) sz) := by
  refine Met.ofW (cc := cX1_isThere) (maxL := 2) (ret := (some .boolean)) (by decide) rfl ?_
  intro p e s m args below meth c s₁ B hml hv
  obtain ⟨rfl, hsz, hP, hK, hD0⟩ := hv
  have hx := B.exec
  have hb := B.bytes
  have hr := B.returns
  have hts := atoms_spec (ws := wsX1_isThere) B.pre
  have hown : s.vm.findClass RX1 = some m.cls := findClass_of_methodNamed B.named
  have hlocks := B.notSynchronized
  subst hsz
  have hD := hD0.self (sz := s.heap.size)
  generalize hAe : va_A (tm_ws h b1 b2 b3 b4 b5 b6 cI cL cZ th cnt fp sp mo on rs rw rl le bl bs) s.heap.size = A at hD ⊢
  have hA : ∀ q : Nat, s.heap.size ≤ q → A q := fun q h => by rw [← hAe]; exact Or.inr h
  have hS : va_S A s.heap s.heap [] := va_S.rf
  have hl := lv_entry ([.ref h, .int x]) (n := 2) (Nat.le_of_ble_eq_true rfl)
  rw [lg_entry_eq]
  generalize (lg_sl ([.ref h, .int x]) ++ List.replicate (2 - (lg_sl ([.ref h, .int x])).length) Slot.unset).toArray = ls at hl ⊢
  have hl : lv_has ls 2 [(0, .ref h), (1, .int x)] := hl
  have kf34 := hts (.fieldLink RX1 34 "TimeNetModel" "size" "I") (by decide +kernel)
  have hin : ∀ w ∈ u_ws RX1 TX1 12, w ∈ wsX1_isThere := by decide +kernel
  refine lv_iload_n hx hb dX1_isThere_0 rfl (lv_at hl 1 rfl) ?_
  refine lv_if_lt (tgt := 16) hx hb dX1_isThere_1 (by decide) (fun c_1 => ?_) (fun c_1 => ?_)
  · skip
    refine lv_iconst (v := nI 0) hx hb dX1_isThere_16 (by decide) ?_
    exact W.zret (v := nI 0) hx hb hr rfl (fun t ht hW => ⟨⟨nI 0, (), rfl, Or.inr ⟨rfl, tn_ix2 c_1 (by omega)⟩, by rw [ht]; exact hP, va_K.moved hW.alike hK, hD⟩, hS.F ht⟩) hS.2.2 dX1_isThere_17
  · skip
    refine lv_iload_n hx hb dX1_isThere_4 rfl (lv_at hl 1 rfl) ?_
    refine lv_aload_n hx hb dX1_isThere_5 rfl (lv_at hl 0 rfl) ?_
    refine va_get (D := (dC, dI)) (ci := 1) (v := .int (nI cnt)) (C := RX1) (T := TX1) (N := 12) hx hb hts hin hown hK hP 0 rfl rfl 1 (by decide) kf34 (fun _ h9 => h9) rfl dX1_isThere_6 ?_
    refine lv_icmp_ge (tgt := 16) hx hb dX1_isThere_9 (by decide) (fun c_9 => ?_) (fun c_9 => ?_)
    · skip
      refine lv_iconst (v := nI 0) hx hb dX1_isThere_16 (by decide) ?_
      exact W.zret (v := nI 0) hx hb hr rfl (fun t ht hW => ⟨⟨nI 0, (), rfl, Or.inr ⟨rfl, tn_ix3 c_9 (by omega)⟩, by rw [ht]; exact hP, va_K.moved hW.alike hK, hD⟩, hS.F ht⟩) hS.2.2 dX1_isThere_17
    · skip
      refine lv_iconst (v := nI 1) hx hb dX1_isThere_12 (by decide) ?_
      refine lv_goto (tgt := 17) hx hb dX1_isThere_13 (by decide) ?_
      exact W.zret (v := nI 1) hx hb hr rfl (fun t ht hW => ⟨⟨nI 1, (), rfl, Or.inl ⟨rfl, tn_ix1 c_1 c_9 (by omega)⟩, by rw [ht]; exact hP, va_K.moved hW.alike hK, hD⟩, hS.F ht⟩) hS.2.2 dX1_isThere_17
set_option maxHeartbeats 4000000 in
set_option maxRecDepth 100000 in
/-- step(v, w): the least c of what is on from v to w -/
theorem cX1_step_ok (l : Launch) (dC : Nat → ClassId) (dI : Nat → Nat → Nat) (h b1 b2 b3 b4 b5 b6 : Nat) (cI cL cZ : ClassId) (th cnt : Nat) (fp sp : Nat → Nat) (mo : Nat → Int64) (on : Nat → Bool) (rs : Nat) (rw : Nat → Nat) (rl : Int64) (le : Nat → Int64) (bl : Int64) (bs : Int32) (sz : Nat) (g : tn_good cnt fp sp mo) (v : Nat) (hv : v < 20) (w : Nat) (hw : w < 20) : Met l yX1_step wsX1_step ({ frames := 0, cells := 0, slots := 0, locals := 0 }) (va_Pc [.ref h, .int (nI v), .int (nI w)] (tn_Pre dC dI (tn_tys cI cL cZ) (tm_ws h b1 b2 b3 b4 b5 b6 cI cL cZ th cnt fp sp mo on rs rw rl le bl bs) sz)) (va_Ql (S := Unit) (fun r _ => tm_st cnt fp sp mo on v w r) (fun u t => tn_at dC dI (tn_tys cI cL cZ) (va_A (tm_ws h b1 b2 b3 b4 b5 b6 cI cL cZ th cnt fp sp mo on rs rw rl le bl bs) sz) (tm_ws h b1 b2 b3 b4 b5 b6 cI cL cZ th cnt fp sp mo on rs rw rl le bl bs) t) (va_A (tm_ws h b1 b2 b3 b4 b5 b6 cI cL cZ th cnt fp sp mo on rs rw rl le bl bs) sz)) 0 0 (va_A (tm_ws h b1 b2 b3 b4 b5 b6 cI cL cZ th cnt fp sp mo on rs rw rl le bl bs) sz) := by
  refine Met.ofW (cc := cX1_step) (maxL := 6) (ret := (some .long)) (by decide) rfl ?_
  intro p e s m args below meth c s₁ B hml hv
  obtain ⟨rfl, hsz, hP, hK, hD0⟩ := hv
  have hx := B.exec
  have hb := B.bytes
  have hr := B.returns
  have hts := atoms_spec (ws := wsX1_step) B.pre
  have hown : s.vm.findClass RX1 = some m.cls := findClass_of_methodNamed B.named
  have hlocks := B.notSynchronized
  subst hsz
  have hD := hD0.self (sz := s.heap.size)
  generalize hAe : va_A (tm_ws h b1 b2 b3 b4 b5 b6 cI cL cZ th cnt fp sp mo on rs rw rl le bl bs) s.heap.size = A at hD ⊢
  have hA : ∀ q : Nat, s.heap.size ≤ q → A q := fun q h => by rw [← hAe]; exact Or.inr h
  have hS : va_S A s.heap s.heap [] := va_S.rf
  have hl := lv_entry ([.ref h, .int (nI v), .int (nI w)]) (n := 6) (Nat.le_of_ble_eq_true rfl)
  rw [lg_entry_eq]
  generalize (lg_sl ([.ref h, .int (nI v), .int (nI w)]) ++ List.replicate (6 - (lg_sl ([.ref h, .int (nI v), .int (nI w)])).length) Slot.unset).toArray = ls at hl ⊢
  have hl : lv_has ls 6 [(0, .ref h), (1, .int (nI v)), (2, .int (nI w))] := hl
  have kc37 := hts (.constantLong RX1 37 (9223372036854775807)) (by decide +kernel)
  have kf34 := hts (.fieldLink RX1 34 "TimeNetModel" "size" "I") (by decide +kernel)
  have kf20 := hts (.fieldLink RX1 20 "TimeNetModel" "isOn" "[Z") (by decide +kernel)
  have kf7 := hts (.fieldLink RX1 7 "TimeNetModel" "first" "[I") (by decide +kernel)
  have kf13 := hts (.fieldLink RX1 13 "TimeNetModel" "second" "[I") (by decide +kernel)
  have kf16 := hts (.fieldLink RX1 16 "TimeNetModel" "c" "[J") (by decide +kernel)
  have hin : ∀ w ∈ u_ws RX1 TX1 12, w ∈ wsX1_step := by decide +kernel
  have hc := g.1
  have loop : ∀ (n : Nat) (k : Nat) (rr : Int64) (H : Heap) (locs : List Loc) (ls : Array Slot), (k ≤ cnt) → (cnt < k + n) → (tm_st k fp sp mo on v w rr) → va_P (dC, dI) vwCl (tm_ws h b1 b2 b3 b4 b5 b6 cI cL cZ th cnt fp sp mo on rs rw rl le bl bs) H → va_D A (tm_ws h b1 b2 b3 b4 b5 b6 cI cL cZ th cnt fp sp mo on rs rw rl le bl bs) → va_S A s.heap H locs → lv_has ls 6 [(0, .ref h), (1, .int (nI v)), (2, .int (nI w)), (3, .long rr), (5, .int (nI k))] → W p l e (headSpec wsX1_step ({ frames := 0, cells := 0, slots := 0, locals := 0 })).room s m ([.ref h, .int (nI v), .int (nI w)] : List Value).toArray below meth c H locs 0 0 (MQ below (va_Ql (S := Unit) (fun r _ => tm_st cnt fp sp mo on v w r) (fun u t => tn_at dC dI (tn_tys cI cL cZ) A (tm_ws h b1 b2 b3 b4 b5 b6 cI cL cZ th cnt fp sp mo on rs rw rl le bl bs) t) A) (([.ref h, .int (nI v), .int (nI w)] : List Value).toArray) s 0 0 A) (F0 m 7 ls []) := by
    intro n
    induction n with
    | zero => intro k rr H locs ls hk1 hk2 hst _ _ _ _; exact absurd hk2 (by omega)
    | succ n ih_loop =>
      intro k rr H locs ls hk1 hk2 hst hP hD hS hl
      refine lv_iload hx hb dX1_step_7 (lv_at hl 4 rfl) ?_
      refine lv_aload_n hx hb dX1_step_9 rfl (lv_at hl 0 rfl) ?_
      refine va_get (D := (dC, dI)) (ci := 1) (v := .int (nI cnt)) (C := RX1) (T := TX1) (N := 12) hx hb hts hin hown hK hP 0 rfl rfl 1 (by decide) kf34 (fun _ h9 => h9) rfl dX1_step_10 ?_
      refine lv_icmp_ge (tgt := 78) hx hb dX1_step_13 (by decide) (fun c_13 => ?_) (fun c_13 => ?_)
      · skip
        have hkc : k = cnt := Nat.le_antisymm hk1 ((nI_leI (by omega) (by omega)).mp c_13)
        subst hkc
        refine lv_lload_n hx hb dX1_step_78 rfl (lv_at hl 3 rfl) ?_
        exact W.lret (v := rr) hx hb hr (fun t ht hW => ⟨⟨rr, (), rfl, hst, by rw [ht]; exact hP, va_K.moved hW.alike hK, hD⟩, hS.F ht⟩) hS.2.2 dX1_step_79
      · skip
        have hkc : k < cnt := Nat.lt_of_not_le (fun q => c_13 (nI_le q (by omega)))
        have hk3 := (g.2 k hkc)
        refine lv_aload_n hx hb dX1_step_16 rfl (lv_at hl 0 rfl) ?_
        refine va_get (D := (dC, dI)) (ci := 1) (v := .ref b4) (C := RX1) (T := TX1) (N := 12) hx hb hts hin hown hK hP 0 rfl rfl 5 (by decide) kf20 (fun _ h9 => h9) rfl dX1_step_17 ?_
        refine lv_iload hx hb dX1_step_20 (lv_at hl 4 rfl) ?_
        refine tn_zald (i := k) (v := tn_b (on k)) hx hb hK hP 4 2 rfl rfl (by omega) (by decide) rfl dX1_step_22 ?_
        refine lv_if_eq (tgt := 70) hx hb dX1_step_23 (by decide) (fun c_23 => ?_) (fun c_23 => ?_)
        · skip
          have ho := tn_b_eq0 c_23
          refine lv_lload_n hx hb dX1_step_70 rfl (lv_at hl 3 rfl) ?_
          refine lv_lstore_n (lv' := [(3, .long rr), (0, .ref h), (1, .int (nI v)), (2, .int (nI w)), (5, .int (nI k))]) hx hb dX1_step_71 rfl hl (by decide) rfl (fun ls hl => ?_)
          refine lv_iinc (v := nI (k + 1)) (lv' := [(5, .int (nI (k + 1))), (3, .long rr), (0, .ref h), (1, .int (nI v)), (2, .int (nI w))]) hx hb dX1_step_72 hl (k := 4) rfl (tn_inc k) (by decide) rfl (fun ls hl => ?_)
          refine lv_goto (tgt := 7) hx hb dX1_step_75 (by decide) ?_
          exact ih_loop (k + 1) rr _ _ _ hkc (by omega) (tm_st_skip hst (fun q => by rw [ho] at q; exact absurd q (by decide))) hP hD hS (lv_sub hl [2, 3, 4, 1, 0] rfl)
        · skip
          have ho := tn_b_ne0 c_23
          refine lv_aload_n hx hb dX1_step_26 rfl (lv_at hl 0 rfl) ?_
          refine va_get (D := (dC, dI)) (ci := 1) (v := .ref b1) (C := RX1) (T := TX1) (N := 12) hx hb hts hin hown hK hP 0 rfl rfl 2 (by decide) kf7 (fun _ h9 => h9) rfl dX1_step_27 ?_
          refine lv_iload hx hb dX1_step_30 (lv_at hl 4 rfl) ?_
          refine tn_iald (i := k) (v := nI (fp k)) hx hb hK hP 1 0 rfl rfl (by omega) (by decide) rfl dX1_step_32 ?_
          refine lv_iload_n hx hb dX1_step_33 rfl (lv_at hl 1 rfl) ?_
          refine lv_icmp_ne (tgt := 70) hx hb dX1_step_34 (by decide) (fun c_34 => ?_) (fun c_34 => ?_)
          · skip
            have hf : fp k ≠ v := fun q => c_34 (by rw [q])
            refine lv_lload_n hx hb dX1_step_70 rfl (lv_at hl 3 rfl) ?_
            refine lv_lstore_n (lv' := [(3, .long rr), (0, .ref h), (1, .int (nI v)), (2, .int (nI w)), (5, .int (nI k))]) hx hb dX1_step_71 rfl hl (by decide) rfl (fun ls hl => ?_)
            refine lv_iinc (v := nI (k + 1)) (lv' := [(5, .int (nI (k + 1))), (3, .long rr), (0, .ref h), (1, .int (nI v)), (2, .int (nI w))]) hx hb dX1_step_72 hl (k := 4) rfl (tn_inc k) (by decide) rfl (fun ls hl => ?_)
            refine lv_goto (tgt := 7) hx hb dX1_step_75 (by decide) ?_
            exact ih_loop (k + 1) rr _ _ _ hkc (by omega) (tm_st_skip hst (fun _ q => absurd q hf)) hP hD hS (lv_sub hl [2, 3, 4, 1, 0] rfl)
          · skip
            have hf : fp k = v := (nI_eq (by omega) (by omega)).mp c_34
            refine lv_aload_n hx hb dX1_step_37 rfl (lv_at hl 0 rfl) ?_
            refine va_get (D := (dC, dI)) (ci := 1) (v := .ref b2) (C := RX1) (T := TX1) (N := 12) hx hb hts hin hown hK hP 0 rfl rfl 3 (by decide) kf13 (fun _ h9 => h9) rfl dX1_step_38 ?_
            refine lv_iload hx hb dX1_step_41 (lv_at hl 4 rfl) ?_
            refine tn_iald (i := k) (v := nI (sp k)) hx hb hK hP 2 0 rfl rfl (by omega) (by decide) rfl dX1_step_43 ?_
            refine lv_iload_n hx hb dX1_step_44 rfl (lv_at hl 2 rfl) ?_
            refine lv_icmp_ne (tgt := 70) hx hb dX1_step_45 (by decide) (fun c_45 => ?_) (fun c_45 => ?_)
            · skip
              have hs : sp k ≠ w := fun q => c_45 (by rw [q])
              refine lv_lload_n hx hb dX1_step_70 rfl (lv_at hl 3 rfl) ?_
              refine lv_lstore_n (lv' := [(3, .long rr), (0, .ref h), (1, .int (nI v)), (2, .int (nI w)), (5, .int (nI k))]) hx hb dX1_step_71 rfl hl (by decide) rfl (fun ls hl => ?_)
              refine lv_iinc (v := nI (k + 1)) (lv' := [(5, .int (nI (k + 1))), (3, .long rr), (0, .ref h), (1, .int (nI v)), (2, .int (nI w))]) hx hb dX1_step_72 hl (k := 4) rfl (tn_inc k) (by decide) rfl (fun ls hl => ?_)
              refine lv_goto (tgt := 7) hx hb dX1_step_75 (by decide) ?_
              exact ih_loop (k + 1) rr _ _ _ hkc (by omega) (tm_st_skip hst (fun _ _ q => absurd q hs)) hP hD hS (lv_sub hl [2, 3, 4, 1, 0] rfl)
            · skip
              have hs : sp k = w := (nI_eq (by omega) (by omega)).mp c_45
              refine lv_aload_n hx hb dX1_step_48 rfl (lv_at hl 0 rfl) ?_
              refine va_get (D := (dC, dI)) (ci := 1) (v := .ref b3) (C := RX1) (T := TX1) (N := 12) hx hb hts hin hown hK hP 0 rfl rfl 4 (by decide) kf16 (fun _ h9 => h9) rfl dX1_step_49 ?_
              refine lv_iload hx hb dX1_step_52 (lv_at hl 4 rfl) ?_
              refine tn_lald (i := k) (v := mo k) hx hb hK hP 3 1 rfl rfl (by omega) (by decide) rfl dX1_step_54 ?_
              refine lv_lload_n hx hb dX1_step_55 rfl (lv_at hl 3 rfl) ?_
              refine tn_lc_ge (x := (mo k)) (y := rr) (tgt := 70) hx hb dX1_step_56 dX1_step_57 (by decide) (fun c_56 => ?_) (fun c_56 => ?_)
              · skip
                refine lv_lload_n hx hb dX1_step_70 rfl (lv_at hl 3 rfl) ?_
                refine lv_lstore_n (lv' := [(3, .long rr), (0, .ref h), (1, .int (nI v)), (2, .int (nI w)), (5, .int (nI k))]) hx hb dX1_step_71 rfl hl (by decide) rfl (fun ls hl => ?_)
                refine lv_iinc (v := nI (k + 1)) (lv' := [(5, .int (nI (k + 1))), (3, .long rr), (0, .ref h), (1, .int (nI v)), (2, .int (nI w))]) hx hb dX1_step_72 hl (k := 4) rfl (tn_inc k) (by decide) rfl (fun ls hl => ?_)
                refine lv_goto (tgt := 7) hx hb dX1_step_75 (by decide) ?_
                exact ih_loop (k + 1) rr _ _ _ hkc (by omega) (tm_st_skip hst (fun _ _ _ => tm_nMX hk3.2.2.2 c_56)) hP hD hS (lv_sub hl [2, 3, 4, 1, 0] rfl)
              · skip
                refine lv_aload_n hx hb dX1_step_60 rfl (lv_at hl 0 rfl) ?_
                refine va_get (D := (dC, dI)) (ci := 1) (v := .ref b3) (C := RX1) (T := TX1) (N := 12) hx hb hts hin hown hK hP 0 rfl rfl 4 (by decide) kf16 (fun _ h9 => h9) rfl dX1_step_61 ?_
                refine lv_iload hx hb dX1_step_64 (lv_at hl 4 rfl) ?_
                refine tn_lald (i := k) (v := mo k) hx hb hK hP 3 1 rfl rfl (by omega) (by decide) rfl dX1_step_66 ?_
                refine lv_goto (tgt := 71) hx hb dX1_step_67 (by decide) ?_
                refine lv_lstore_n (lv' := [(3, .long (mo k)), (0, .ref h), (1, .int (nI v)), (2, .int (nI w)), (5, .int (nI k))]) hx hb dX1_step_71 rfl hl (by decide) rfl (fun ls hl => ?_)
                refine lv_iinc (v := nI (k + 1)) (lv' := [(5, .int (nI (k + 1))), (3, .long (mo k)), (0, .ref h), (1, .int (nI v)), (2, .int (nI w))]) hx hb dX1_step_72 hl (k := 4) rfl (tn_inc k) (by decide) rfl (fun ls hl => ?_)
                refine lv_goto (tgt := 7) hx hb dX1_step_75 (by decide) ?_
                exact ih_loop (k + 1) (mo k) _ _ _ hkc (by omega) (tm_st_take hst ho hf hs (tn_neMX (by omega)) c_56) hP hD hS (lv_sub hl [2, 3, 4, 1, 0] rfl)
  refine lv_ldc2 (v := 9223372036854775807) hx hb hown kc37 dX1_step_0 ?_
  refine lv_lstore_n (lv' := [(3, .long 9223372036854775807), (0, .ref h), (1, .int (nI v)), (2, .int (nI w))]) hx hb dX1_step_3 rfl hl (by decide) rfl (fun ls hl => ?_)
  refine lv_iconst (v := nI 0) hx hb dX1_step_4 (by decide) ?_
  refine lv_istore (lv' := [(5, .int (nI 0)), (3, .long 9223372036854775807), (0, .ref h), (1, .int (nI v)), (2, .int (nI w))]) hx hb dX1_step_5 hl (by decide) rfl (fun ls hl => ?_)
  exact loop (cnt + 1) 0 tn_MX _ _ _ (Nat.zero_le _) (by omega) tm_st_0 hP hD hS (lv_sub hl [2, 3, 4, 1, 0] rfl)
set_option maxHeartbeats 4000000 in
set_option maxRecDepth 100000 in
/-- best(i, j) -/
theorem cX1_best_ok (l : Launch) (dC : Nat → ClassId) (dI : Nat → Nat → Nat) (h b1 b2 b3 b4 b5 b6 : Nat) (cI cL cZ : ClassId) (th cnt : Nat) (fp sp : Nat → Nat) (mo : Nat → Int64) (on : Nat → Bool) (rs : Nat) (rw : Nat → Nat) (rl : Int64) (le : Nat → Int64) (bl : Int64) (bs : Int32) (sz : Nat) (g : tn_good cnt fp sp mo) (ok : tn_ok (tn_E cnt fp sp mo on)) (i : Nat) (hi : i < 20) (j : Nat) (hj : j < 20) : Met l yX1_best wsX1_best ({ frames := 0, cells := 0, slots := 0, locals := 0 }) (va_Pc [.ref h, .int (nI i), .int (nI j)] (tn_Pre dC dI (tn_tys cI cL cZ) (tm_ws h b1 b2 b3 b4 b5 b6 cI cL cZ th cnt fp sp mo on rs rw rl le bl bs) sz)) (va_Qi (S := (Nat → Int64) × Int64 × Int32) (fun r u => tm_bok (tn_E cnt fp sp mo on) i j u.1 u.2.1 u.2.2 r) (fun u t => tn_at dC dI (tn_tys cI cL cZ) (va_A (tm_ws h b1 b2 b3 b4 b5 b6 cI cL cZ th cnt fp sp mo on rs rw rl le bl bs) sz) (tm_ws h b1 b2 b3 b4 b5 b6 cI cL cZ th cnt fp sp mo on rs rw rl u.1 u.2.1 u.2.2) t) (va_A (tm_ws h b1 b2 b3 b4 b5 b6 cI cL cZ th cnt fp sp mo on rs rw rl le bl bs) sz)) 0 0 (va_A (tm_ws h b1 b2 b3 b4 b5 b6 cI cL cZ th cnt fp sp mo on rs rw rl le bl bs) sz) := by
  refine Met.ofW (cc := cX1_best) (maxL := 7) (ret := (some .boolean)) (by decide) rfl ?_
  intro p e s m args below meth c s₁ B hml hv
  obtain ⟨rfl, hsz, hP, hK, hD0⟩ := hv
  have hx := B.exec
  have hb := B.bytes
  have hr := B.returns
  have hts := atoms_spec (ws := wsX1_best) B.pre
  have hown : s.vm.findClass RX1 = some m.cls := findClass_of_methodNamed B.named
  have hlocks := B.notSynchronized
  subst hsz
  have hD := hD0.self (sz := s.heap.size)
  generalize hAe : va_A (tm_ws h b1 b2 b3 b4 b5 b6 cI cL cZ th cnt fp sp mo on rs rw rl le bl bs) s.heap.size = A at hD ⊢
  have hA : ∀ q : Nat, s.heap.size ≤ q → A q := fun q h => by rw [← hAe]; exact Or.inr h
  have hS : va_S A s.heap s.heap [] := va_S.rf
  have hl := lv_entry ([.ref h, .int (nI i), .int (nI j)]) (n := 7) (Nat.le_of_ble_eq_true rfl)
  rw [lg_entry_eq]
  generalize (lg_sl ([.ref h, .int (nI i), .int (nI j)]) ++ List.replicate (7 - (lg_sl ([.ref h, .int (nI i), .int (nI j)])).length) Slot.unset).toArray = ls at hl ⊢
  have hl : lv_has ls 7 [(0, .ref h), (1, .int (nI i)), (2, .int (nI j))] := hl
  have kf27 := hts (.fieldLink RX1 27 "TimeNetModel" "least" "[J") (by decide +kernel)
  have kc37 := hts (.constantLong RX1 37 (9223372036854775807)) (by decide +kernel)
  have kf34 := hts (.fieldLink RX1 34 "TimeNetModel" "size" "I") (by decide +kernel)
  have kf13 := hts (.fieldLink RX1 13 "TimeNetModel" "second" "[I") (by decide +kernel)
  have kf7 := hts (.fieldLink RX1 7 "TimeNetModel" "first" "[I") (by decide +kernel)
  have kf20 := hts (.fieldLink RX1 20 "TimeNetModel" "isOn" "[Z") (by decide +kernel)
  have kf16 := hts (.fieldLink RX1 16 "TimeNetModel" "c" "[J") (by decide +kernel)
  have kf39 := hts (.fieldLink RX1 39 "TimeNetModel" "bestSteps" "I") (by decide +kernel)
  have kf42 := hts (.fieldLink RX1 42 "TimeNetModel" "bestLength" "J") (by decide +kernel)
  have hin : ∀ w ∈ u_ws RX1 TX1 12, w ∈ wsX1_best := by decide +kernel
  have hc := g.1
  have loopE : ∀ (n : Nat) (z : Nat) (le1 : Nat → Int64) (bl1 : Int64) (bs1 : Int32) (H : Heap) (locs : List Loc) (ls : Array Slot), (z ≤ 21) → (21 < z + n) → (tm_lv (tn_E cnt fp sp mo on) j le1) → (tm_sc le1 i z bl1 bs1) → va_P (dC, dI) vwCl (tm_ws h b1 b2 b3 b4 b5 b6 cI cL cZ th cnt fp sp mo on rs rw rl le1 bl1 bs1) H → va_D A (tm_ws h b1 b2 b3 b4 b5 b6 cI cL cZ th cnt fp sp mo on rs rw rl le1 bl1 bs1) → va_S A s.heap H locs → lv_has ls 7 [(0, .ref h), (1, .int (nI i)), (2, .int (nI j)), (3, .int (nI z))] → W p l e (headSpec wsX1_best ({ frames := 0, cells := 0, slots := 0, locals := 0 })).room s m ([.ref h, .int (nI i), .int (nI j)] : List Value).toArray below meth c H locs 0 0 (MQ below (va_Qi (S := (Nat → Int64) × Int64 × Int32) (fun r u => tm_bok (tn_E cnt fp sp mo on) i j u.1 u.2.1 u.2.2 r) (fun u t => tn_at dC dI (tn_tys cI cL cZ) A (tm_ws h b1 b2 b3 b4 b5 b6 cI cL cZ th cnt fp sp mo on rs rw rl u.1 u.2.1 u.2.2) t) A) (([.ref h, .int (nI i), .int (nI j)] : List Value).toArray) s 0 0 A) (F0 m 211 ls []) := by
    intro n
    induction n with
    | zero => intro z le1 bl1 bs1 H locs ls hz1 hz2 hlv hsc _ _ _ _; exact absurd hz2 (by omega)
    | succ n ih_loopE =>
      intro z le1 bl1 bs1 H locs ls hz1 hz2 hlv hsc hP hD hS hl
      refine lv_iload_n hx hb dX1_best_211 rfl (lv_at hl 3 rfl) ?_
      refine lv_bipush (v := nI 20) hx hb dX1_best_212 (by decide) ?_
      refine lv_icmp_gt (tgt := 262) hx hb dX1_best_214 (by decide) (fun c_214 => ?_) (fun c_214 => ?_)
      · skip
        have hz21 : z = 21 := by
          have := (nI_ltI (by omega) (by omega)).mp c_214
          omega
        subst hz21
        refine lv_aload_n hx hb dX1_best_262 rfl (lv_at hl 0 rfl) ?_
        refine va_get (D := (dC, dI)) (ci := 1) (v := .int bs1) (C := RX1) (T := TX1) (N := 12) hx hb hts hin hown hK hP 0 rfl rfl 11 (by decide) kf39 (fun _ h9 => h9) rfl dX1_best_263 ?_
        refine lv_if_lt (tgt := 273) hx hb dX1_best_266 (by decide) (fun c_266 => ?_) (fun c_266 => ?_)
        · skip
          refine lv_iconst (v := nI 0) hx hb dX1_best_273 (by decide) ?_
          exact W.zret (v := nI 0) hx hb hr rfl (fun t ht hW => ⟨⟨nI 0, (le1, bl1, bs1), rfl, ⟨hlv, Or.inl ⟨rfl, tm_fin0 (B := True) (tm_fin (tn_E_in g) ok hi hlv hsc) c_266⟩⟩, by rw [ht]; exact hP, va_K.moved hW.alike hK, hD⟩, hS.F ht⟩) hS.2.2 dX1_best_274
        · skip
          refine lv_iconst (v := nI 1) hx hb dX1_best_269 (by decide) ?_
          refine lv_goto (tgt := 274) hx hb dX1_best_270 (by decide) ?_
          exact W.zret (v := nI 1) hx hb hr rfl (fun t ht hW => ⟨⟨nI 1, (le1, bl1, bs1), rfl, ⟨hlv, Or.inr ⟨rfl, tm_fin1 (tm_fin (tn_E_in g) ok hi hlv hsc) c_266⟩⟩, by rw [ht]; exact hP, va_K.moved hW.alike hK, hD⟩, hS.F ht⟩) hS.2.2 dX1_best_274
      · skip
        have hz21 : z ≤ 20 := Nat.le_of_not_lt (fun q => c_214 (nI_lt q (by omega)))
        refine lv_aload_n hx hb dX1_best_217 rfl (lv_at hl 0 rfl) ?_
        refine va_get (D := (dC, dI)) (ci := 1) (v := .ref b6) (C := RX1) (T := TX1) (N := 12) hx hb hts hin hown hK hP 0 rfl rfl 9 (by decide) kf27 (fun _ h9 => h9) rfl dX1_best_218 ?_
        refine lv_bipush (v := nI 20) hx hb dX1_best_221 (by decide) ?_
        refine lv_iload_n hx hb dX1_best_223 rfl (lv_at hl 3 rfl) ?_
        refine tn_imul (a := 20) (b := z) hx hb dX1_best_224 ?_
        refine lv_iload_n hx hb dX1_best_225 rfl (lv_at hl 1 rfl) ?_
        refine tn_iadd (a := (20 * z)) (b := i) hx hb dX1_best_226 ?_
        refine tn_lald (i := ((20 * z) + i)) (v := le1 ((20 * z) + i)) hx hb hK hP 6 1 rfl rfl (by omega) (by decide) rfl dX1_best_227 ?_
        refine lv_aload_n hx hb dX1_best_228 rfl (lv_at hl 0 rfl) ?_
        refine va_get (D := (dC, dI)) (ci := 1) (v := .long bl1) (C := RX1) (T := TX1) (N := 12) hx hb hts hin hown hK hP 0 rfl rfl 10 (by decide) kf42 (fun _ h9 => h9) rfl dX1_best_229 ?_
        refine tn_lc_ge (x := (le1 ((20 * z) + i))) (y := bl1) (tgt := 256) hx hb dX1_best_232 dX1_best_233 (by decide) (fun c_232 => ?_) (fun c_232 => ?_)
        · skip
          refine lv_iinc (v := nI (z + 1)) (lv' := [(3, .int (nI (z + 1))), (0, .ref h), (1, .int (nI i)), (2, .int (nI j))]) hx hb dX1_best_256 hl (k := 3) rfl (tn_inc z) (by decide) rfl (fun ls hl => ?_)
          refine lv_goto (tgt := 211) hx hb dX1_best_259 (by decide) ?_
          exact ih_loopE (z + 1) le1 bl1 bs1 _ _ _ (by omega) (by omega) hlv (tm_sc_skip hsc c_232) hP hD hS (lv_sub hl [1, 2, 3, 0] rfl)
        · skip
          refine lv_aload_n hx hb dX1_best_236 rfl (lv_at hl 0 rfl) ?_
          refine lv_aload_n hx hb dX1_best_237 rfl (lv_at hl 0 rfl) ?_
          refine va_get (D := (dC, dI)) (ci := 1) (v := .ref b6) (C := RX1) (T := TX1) (N := 12) hx hb hts hin hown hK hP 0 rfl rfl 9 (by decide) kf27 (fun _ h9 => h9) rfl dX1_best_238 ?_
          refine lv_bipush (v := nI 20) hx hb dX1_best_241 (by decide) ?_
          refine lv_iload_n hx hb dX1_best_243 rfl (lv_at hl 3 rfl) ?_
          refine tn_imul (a := 20) (b := z) hx hb dX1_best_244 ?_
          refine lv_iload_n hx hb dX1_best_245 rfl (lv_at hl 1 rfl) ?_
          refine tn_iadd (a := (20 * z)) (b := i) hx hb dX1_best_246 ?_
          refine tn_lald (i := ((20 * z) + i)) (v := le1 ((20 * z) + i)) hx hb hK hP 6 1 rfl rfl (by omega) (by decide) rfl dX1_best_247 ?_
          refine va_put (D := (dC, dI)) (ci := 1) (v := .long (le1 ((20 * z) + i))) (ty := .long) (C := RX1) (T := TX1) (N := 12) hx hb hts hin tyX1 tyX1_ok nmX1 hown hK hP hD hS 0 rfl rfl 10 (by decide) kf42 (fun _ h9 => h9) rfl (by decide +kernel) rfl rfl (Nat.le_of_ble_eq_true rfl) dX1_best_248 (fun H locs hP hD hS => ?_)
          have hP : va_P (dC, dI) vwCl (tm_ws h b1 b2 b3 b4 b5 b6 cI cL cZ th cnt fp sp mo on rs rw rl le1 (le1 ((20 * z) + i)) bs1) H := hP
          have hD : va_D A (tm_ws h b1 b2 b3 b4 b5 b6 cI cL cZ th cnt fp sp mo on rs rw rl le1 (le1 ((20 * z) + i)) bs1) := hD
          refine lv_aload_n hx hb dX1_best_251 rfl (lv_at hl 0 rfl) ?_
          refine lv_iload_n hx hb dX1_best_252 rfl (lv_at hl 3 rfl) ?_
          refine va_put (D := (dC, dI)) (ci := 1) (v := .int (nI z)) (ty := .int) (C := RX1) (T := TX1) (N := 12) hx hb hts hin tyX1 tyX1_ok nmX1 hown hK hP hD hS 0 rfl rfl 11 (by decide) kf39 (fun _ h9 => h9) rfl (by decide +kernel) rfl rfl (Nat.le_of_ble_eq_true rfl) dX1_best_253 (fun H locs hP hD hS => ?_)
          have hP : va_P (dC, dI) vwCl (tm_ws h b1 b2 b3 b4 b5 b6 cI cL cZ th cnt fp sp mo on rs rw rl le1 (le1 ((20 * z) + i)) (nI z)) H := hP
          have hD : va_D A (tm_ws h b1 b2 b3 b4 b5 b6 cI cL cZ th cnt fp sp mo on rs rw rl le1 (le1 ((20 * z) + i)) (nI z)) := hD
          refine lv_iinc (v := nI (z + 1)) (lv' := [(3, .int (nI (z + 1))), (0, .ref h), (1, .int (nI i)), (2, .int (nI j))]) hx hb dX1_best_256 hl (k := 3) rfl (tn_inc z) (by decide) rfl (fun ls hl => ?_)
          refine lv_goto (tgt := 211) hx hb dX1_best_259 (by decide) ?_
          exact ih_loopE (z + 1) le1 (le1 (20 * z + i)) (nI z) _ _ _ (by omega) (by omega) hlv (tm_sc_take hsc c_232) hP hD hS (lv_sub hl [1, 2, 3, 0] rfl)
  have loopB : ∀ (n : Nat) (sv : Nat) (le1 : Nat → Int64) (H : Heap) (locs : List Loc) (ls : Array Slot), (sv ≤ 20) → (20 < sv + n) → (∀ z, z ≤ sv → tm_rw (tn_E cnt fp sp mo on) j z le1) → va_P (dC, dI) vwCl (tm_ws h b1 b2 b3 b4 b5 b6 cI cL cZ th cnt fp sp mo on rs rw rl le1 bl bs) H → va_D A (tm_ws h b1 b2 b3 b4 b5 b6 cI cL cZ th cnt fp sp mo on rs rw rl le1 bl bs) → va_S A s.heap H locs → lv_has ls 7 [(0, .ref h), (1, .int (nI i)), (2, .int (nI j)), (3, .int (nI (sv + 1)))] → W p l e (headSpec wsX1_best ({ frames := 0, cells := 0, slots := 0, locals := 0 })).room s m ([.ref h, .int (nI i), .int (nI j)] : List Value).toArray below meth c H locs 0 0 (MQ below (va_Qi (S := (Nat → Int64) × Int64 × Int32) (fun r u => tm_bok (tn_E cnt fp sp mo on) i j u.1 u.2.1 u.2.2 r) (fun u t => tn_at dC dI (tn_tys cI cL cZ) A (tm_ws h b1 b2 b3 b4 b5 b6 cI cL cZ th cnt fp sp mo on rs rw rl u.1 u.2.1 u.2.2) t) A) (([.ref h, .int (nI i), .int (nI j)] : List Value).toArray) s 0 0 A) (F0 m 34 ls []) := by
    intro n
    induction n with
    | zero => intro sv le1 H locs ls hs1 hs2 hlw _ _ _ _; exact absurd hs2 (by omega)
    | succ n ih_loopB =>
      intro sv le1 H locs ls hs1 hs2 hlw hP hD hS hl
      refine lv_iload_n hx hb dX1_best_34 rfl (lv_at hl 3 rfl) ?_
      refine lv_bipush (v := nI 20) hx hb dX1_best_35 (by decide) ?_
      refine lv_icmp_gt (tgt := 197) hx hb dX1_best_37 (by decide) (fun c_37 => ?_) (fun c_37 => ?_)
      · skip
        have hsv : sv = 20 := by
          have := (nI_ltI (by omega) (by omega)).mp c_37
          omega
        subst hsv
        refine lv_aload_n hx hb dX1_best_197 rfl (lv_at hl 0 rfl) ?_
        refine lv_iconst (v := (-1)) hx hb dX1_best_198 (by decide) ?_
        refine va_put (D := (dC, dI)) (ci := 1) (v := .int (-1)) (ty := .int) (C := RX1) (T := TX1) (N := 12) hx hb hts hin tyX1 tyX1_ok nmX1 hown hK hP hD hS 0 rfl rfl 11 (by decide) kf39 (fun _ h9 => h9) rfl (by decide +kernel) rfl rfl (Nat.le_of_ble_eq_true rfl) dX1_best_199 (fun H locs hP hD hS => ?_)
        have hP : va_P (dC, dI) vwCl (tm_ws h b1 b2 b3 b4 b5 b6 cI cL cZ th cnt fp sp mo on rs rw rl le1 bl (-1)) H := hP
        have hD : va_D A (tm_ws h b1 b2 b3 b4 b5 b6 cI cL cZ th cnt fp sp mo on rs rw rl le1 bl (-1)) := hD
        refine lv_aload_n hx hb dX1_best_202 rfl (lv_at hl 0 rfl) ?_
        refine lv_ldc2 (v := 9223372036854775807) hx hb hown kc37 dX1_best_203 ?_
        refine va_put (D := (dC, dI)) (ci := 1) (v := .long 9223372036854775807) (ty := .long) (C := RX1) (T := TX1) (N := 12) hx hb hts hin tyX1 tyX1_ok nmX1 hown hK hP hD hS 0 rfl rfl 10 (by decide) kf42 (fun _ h9 => h9) rfl (by decide +kernel) rfl rfl (Nat.le_of_ble_eq_true rfl) dX1_best_206 (fun H locs hP hD hS => ?_)
        have hP : va_P (dC, dI) vwCl (tm_ws h b1 b2 b3 b4 b5 b6 cI cL cZ th cnt fp sp mo on rs rw rl le1 9223372036854775807 (-1)) H := hP
        have hD : va_D A (tm_ws h b1 b2 b3 b4 b5 b6 cI cL cZ th cnt fp sp mo on rs rw rl le1 9223372036854775807 (-1)) := hD
        refine lv_iconst (v := nI 0) hx hb dX1_best_209 (by decide) ?_
        refine lv_istore_n (lv' := [(3, .int (nI 0)), (0, .ref h), (1, .int (nI i)), (2, .int (nI j))]) hx hb dX1_best_210 rfl hl (by decide) rfl (fun ls hl => ?_)
        exact loopE 22 0 le1 tn_MX (-1) _ _ _ (by omega) (by omega) (fun z hz => hlw z (by omega)) tm_sc_0 hP hD hS (lv_sub hl [1, 2, 3, 0] rfl)
      · skip
        have hsv : sv + 1 ≤ 20 := Nat.le_of_not_lt (fun q => c_37 (nI_lt q (by omega)))
        have loopD : ∀ (n : Nat) (k : Nat) (le1 : Nat → Int64) (H : Heap) (locs : List Loc) (ls : Array Slot), (k ≤ cnt) → (cnt < k + n) → (∀ z, z ≤ sv → tm_rw (tn_E cnt fp sp mo on) j z le1) → (tm_rk (tn_E cnt fp sp mo on) (tn_E k fp sp mo on) j sv le1) → va_P (dC, dI) vwCl (tm_ws h b1 b2 b3 b4 b5 b6 cI cL cZ th cnt fp sp mo on rs rw rl le1 bl bs) H → va_D A (tm_ws h b1 b2 b3 b4 b5 b6 cI cL cZ th cnt fp sp mo on rs rw rl le1 bl bs) → va_S A s.heap H locs → lv_has ls 7 [(0, .ref h), (1, .int (nI i)), (2, .int (nI j)), (3, .int (nI (sv + 1))), (4, .int (nI k))] → W p l e (headSpec wsX1_best ({ frames := 0, cells := 0, slots := 0, locals := 0 })).room s m ([.ref h, .int (nI i), .int (nI j)] : List Value).toArray below meth c H locs 0 0 (MQ below (va_Qi (S := (Nat → Int64) × Int64 × Int32) (fun r u => tm_bok (tn_E cnt fp sp mo on) i j u.1 u.2.1 u.2.2 r) (fun u t => tn_at dC dI (tn_tys cI cL cZ) A (tm_ws h b1 b2 b3 b4 b5 b6 cI cL cZ th cnt fp sp mo on rs rw rl u.1 u.2.1 u.2.2) t) A) (([.ref h, .int (nI i), .int (nI j)] : List Value).toArray) s 0 0 A) (F0 m 74 ls []) := by
          intro n
          induction n with
          | zero => intro k le1 H locs ls hk1 hk2 hlw hrk _ _ _ _; exact absurd hk2 (by omega)
          | succ n ih_loopD =>
            intro k le1 H locs ls hk1 hk2 hlw hrk hP hD hS hl
            refine lv_iload hx hb dX1_best_74 (lv_at hl 4 rfl) ?_
            refine lv_aload_n hx hb dX1_best_76 rfl (lv_at hl 0 rfl) ?_
            refine va_get (D := (dC, dI)) (ci := 1) (v := .int (nI cnt)) (C := RX1) (T := TX1) (N := 12) hx hb hts hin hown hK hP 0 rfl rfl 1 (by decide) kf34 (fun _ h9 => h9) rfl dX1_best_77 ?_
            refine lv_icmp_ge (tgt := 191) hx hb dX1_best_80 (by decide) (fun c_80 => ?_) (fun c_80 => ?_)
            · skip
              have hkc : k = cnt := Nat.le_antisymm hk1 ((nI_leI (by omega) (by omega)).mp c_80)
              subst hkc
              refine lv_iinc (v := nI ((sv + 1) + 1)) (lv' := [(3, .int (nI ((sv + 1) + 1))), (0, .ref h), (1, .int (nI i)), (2, .int (nI j)), (4, .int (nI k))]) hx hb dX1_best_191 hl (k := 3) rfl (tn_inc (sv + 1)) (by decide) rfl (fun ls hl => ?_)
              refine lv_goto (tgt := 34) hx hb dX1_best_194 (by decide) ?_
              exact ih_loopB (sv + 1) le1 _ _ _ (by omega) (by omega) (fun z hz => by
                rcases Nat.lt_or_ge sv z with q | q
                · have : z = sv + 1 := by omega
                  subst this
                  exact tm_rk_done hrk
                · exact hlw z q) hP hD hS (lv_sub hl [1, 2, 3, 0] rfl)
            · skip
              have hkc : k < cnt := Nat.lt_of_not_le (fun q => c_80 (nI_le q (by omega)))
              have hk3 := (g.2 k hkc)
              refine lv_bipush (v := nI 20) hx hb dX1_best_83 (by decide) ?_
              refine lv_iload_n hx hb dX1_best_85 rfl (lv_at hl 3 rfl) ?_
              refine lv_iconst (v := nI 1) hx hb dX1_best_86 (by decide) ?_
              refine tn_isub2 (a := (sv + 1)) (b := 1) (d := sv) hx hb (by omega) dX1_best_87 ?_
              refine tn_imul (a := 20) (b := sv) hx hb dX1_best_88 ?_
              refine lv_aload_n hx hb dX1_best_89 rfl (lv_at hl 0 rfl) ?_
              refine va_get (D := (dC, dI)) (ci := 1) (v := .ref b2) (C := RX1) (T := TX1) (N := 12) hx hb hts hin hown hK hP 0 rfl rfl 3 (by decide) kf13 (fun _ h9 => h9) rfl dX1_best_90 ?_
              refine lv_iload hx hb dX1_best_93 (lv_at hl 4 rfl) ?_
              refine tn_iald (i := k) (v := nI (sp k)) hx hb hK hP 2 0 rfl rfl (by omega) (by decide) rfl dX1_best_95 ?_
              refine tn_iadd (a := (20 * sv)) (b := (sp k)) hx hb dX1_best_96 ?_
              refine lv_istore (lv' := [(5, .int (nI ((20 * sv) + (sp k)))), (0, .ref h), (1, .int (nI i)), (2, .int (nI j)), (3, .int (nI (sv + 1))), (4, .int (nI k))]) hx hb dX1_best_97 hl (by decide) rfl (fun ls hl => ?_)
              refine lv_bipush (v := nI 20) hx hb dX1_best_99 (by decide) ?_
              refine lv_iload_n hx hb dX1_best_101 rfl (lv_at hl 4 rfl) ?_
              refine tn_imul (a := 20) (b := (sv + 1)) hx hb dX1_best_102 ?_
              refine lv_aload_n hx hb dX1_best_103 rfl (lv_at hl 1 rfl) ?_
              refine va_get (D := (dC, dI)) (ci := 1) (v := .ref b1) (C := RX1) (T := TX1) (N := 12) hx hb hts hin hown hK hP 0 rfl rfl 2 (by decide) kf7 (fun _ h9 => h9) rfl dX1_best_104 ?_
              refine lv_iload hx hb dX1_best_107 (lv_at hl 5 rfl) ?_
              refine tn_iald (i := k) (v := nI (fp k)) hx hb hK hP 1 0 rfl rfl (by omega) (by decide) rfl dX1_best_109 ?_
              refine tn_iadd (a := (20 * (sv + 1))) (b := (fp k)) hx hb dX1_best_110 ?_
              refine lv_istore (lv' := [(6, .int (nI ((20 * (sv + 1)) + (fp k)))), (5, .int (nI ((20 * sv) + (sp k)))), (0, .ref h), (1, .int (nI i)), (2, .int (nI j)), (3, .int (nI (sv + 1))), (4, .int (nI k))]) hx hb dX1_best_111 hl (by decide) rfl (fun ls hl => ?_)
              refine lv_aload_n hx hb dX1_best_113 rfl (lv_at hl 2 rfl) ?_
              refine va_get (D := (dC, dI)) (ci := 1) (v := .ref b4) (C := RX1) (T := TX1) (N := 12) hx hb hts hin hown hK hP 0 rfl rfl 5 (by decide) kf20 (fun _ h9 => h9) rfl dX1_best_114 ?_
              refine lv_iload hx hb dX1_best_117 (lv_at hl 6 rfl) ?_
              refine tn_zald (i := k) (v := tn_b (on k)) hx hb hK hP 4 2 rfl rfl (by omega) (by decide) rfl dX1_best_119 ?_
              refine lv_if_eq (tgt := 185) hx hb dX1_best_120 (by decide) (fun c_120 => ?_) (fun c_120 => ?_)
              · skip
                have ho := tn_b_eq0 c_120
                refine lv_iinc (v := nI (k + 1)) (lv' := [(4, .int (nI (k + 1))), (6, .int (nI ((20 * (sv + 1)) + (fp k)))), (5, .int (nI ((20 * sv) + (sp k)))), (0, .ref h), (1, .int (nI i)), (2, .int (nI j)), (3, .int (nI (sv + 1)))]) hx hb dX1_best_185 hl (k := 6) rfl (tn_inc k) (by decide) rfl (fun ls hl => ?_)
                refine lv_goto (tgt := 74) hx hb dX1_best_188 (by decide) ?_
                exact ih_loopD (k + 1) le1 _ _ _ hkc (by omega) hlw (tm_skip_off hrk ho) hP hD hS (lv_sub hl [3, 4, 5, 6, 0] rfl)
              · skip
                have ho := tn_b_ne0 c_120
                refine lv_aload_n hx hb dX1_best_123 rfl (lv_at hl 2 rfl) ?_
                refine va_get (D := (dC, dI)) (ci := 1) (v := .ref b6) (C := RX1) (T := TX1) (N := 12) hx hb hts hin hown hK hP 0 rfl rfl 9 (by decide) kf27 (fun _ h9 => h9) rfl dX1_best_124 ?_
                refine lv_iload hx hb dX1_best_127 (lv_at hl 1 rfl) ?_
                refine tn_lald (i := ((20 * sv) + (sp k))) (v := le1 ((20 * sv) + (sp k))) hx hb hK hP 6 1 rfl rfl (by omega) (by decide) rfl dX1_best_129 ?_
                refine lv_ldc2 (v := 9223372036854775807) hx hb hown kc37 dX1_best_130 ?_
                refine tn_lc_eq (x := (le1 ((20 * sv) + (sp k)))) (y := 9223372036854775807) (tgt := 185) hx hb dX1_best_133 dX1_best_134 (by decide) (fun c_133 => ?_) (fun c_133 => ?_)
                · skip
                  refine lv_iinc (v := nI (k + 1)) (lv' := [(4, .int (nI (k + 1))), (6, .int (nI ((20 * (sv + 1)) + (fp k)))), (5, .int (nI ((20 * sv) + (sp k)))), (0, .ref h), (1, .int (nI i)), (2, .int (nI j)), (3, .int (nI (sv + 1)))]) hx hb dX1_best_185 hl (k := 6) rfl (tn_inc k) (by decide) rfl (fun ls hl => ?_)
                  refine lv_goto (tgt := 74) hx hb dX1_best_188 (by decide) ?_
                  exact ih_loopD (k + 1) le1 _ _ _ hkc (by omega) hlw (tm_skip_far hrk (hlw sv (Nat.le_refl _)) hk3.2.1 c_133) hP hD hS (lv_sub hl [3, 4, 5, 6, 0] rfl)
                · skip
                  refine lv_aload_n hx hb dX1_best_137 rfl (lv_at hl 2 rfl) ?_
                  refine va_get (D := (dC, dI)) (ci := 1) (v := .ref b3) (C := RX1) (T := TX1) (N := 12) hx hb hts hin hown hK hP 0 rfl rfl 4 (by decide) kf16 (fun _ h9 => h9) rfl dX1_best_138 ?_
                  refine lv_iload hx hb dX1_best_141 (lv_at hl 6 rfl) ?_
                  refine tn_lald (i := k) (v := mo k) hx hb hK hP 3 1 rfl rfl (by omega) (by decide) rfl dX1_best_143 ?_
                  refine lv_aload_n hx hb dX1_best_144 rfl (lv_at hl 2 rfl) ?_
                  refine va_get (D := (dC, dI)) (ci := 1) (v := .ref b6) (C := RX1) (T := TX1) (N := 12) hx hb hts hin hown hK hP 0 rfl rfl 9 (by decide) kf27 (fun _ h9 => h9) rfl dX1_best_145 ?_
                  refine lv_iload hx hb dX1_best_148 (lv_at hl 1 rfl) ?_
                  refine tn_lald (i := ((20 * sv) + (sp k))) (v := le1 ((20 * sv) + (sp k))) hx hb hK hP 6 1 rfl rfl (by omega) (by decide) rfl dX1_best_150 ?_
                  refine lv_ladd hx hb dX1_best_151 ?_
                  refine lv_aload_n hx hb dX1_best_152 rfl (lv_at hl 2 rfl) ?_
                  refine va_get (D := (dC, dI)) (ci := 1) (v := .ref b6) (C := RX1) (T := TX1) (N := 12) hx hb hts hin hown hK hP 0 rfl rfl 9 (by decide) kf27 (fun _ h9 => h9) rfl dX1_best_153 ?_
                  refine lv_iload hx hb dX1_best_156 (lv_at hl 0 rfl) ?_
                  refine tn_lald (i := ((20 * (sv + 1)) + (fp k))) (v := le1 ((20 * (sv + 1)) + (fp k))) hx hb hK hP 6 1 rfl rfl (by omega) (by decide) rfl dX1_best_158 ?_
                  refine tn_lc_ge (x := ((mo k) + (le1 ((20 * sv) + (sp k))))) (y := (le1 ((20 * (sv + 1)) + (fp k)))) (tgt := 185) hx hb dX1_best_159 dX1_best_160 (by decide) (fun c_159 => ?_) (fun c_159 => ?_)
                  · skip
                    refine lv_iinc (v := nI (k + 1)) (lv' := [(4, .int (nI (k + 1))), (6, .int (nI ((20 * (sv + 1)) + (fp k)))), (5, .int (nI ((20 * sv) + (sp k)))), (0, .ref h), (1, .int (nI i)), (2, .int (nI j)), (3, .int (nI (sv + 1)))]) hx hb dX1_best_185 hl (k := 6) rfl (tn_inc k) (by decide) rfl (fun ls hl => ?_)
                    refine lv_goto (tgt := 74) hx hb dX1_best_188 (by decide) ?_
                    exact ih_loopD (k + 1) le1 _ _ _ hkc (by omega) hlw (tm_skip_ge g hkc (by omega) (hlw sv (Nat.le_refl _)) hrk c_133 c_159) hP hD hS (lv_sub hl [3, 4, 5, 6, 0] rfl)
                  · skip
                    refine lv_aload_n hx hb dX1_best_163 rfl (lv_at hl 2 rfl) ?_
                    refine va_get (D := (dC, dI)) (ci := 1) (v := .ref b6) (C := RX1) (T := TX1) (N := 12) hx hb hts hin hown hK hP 0 rfl rfl 9 (by decide) kf27 (fun _ h9 => h9) rfl dX1_best_164 ?_
                    refine lv_iload hx hb dX1_best_167 (lv_at hl 0 rfl) ?_
                    refine lv_aload_n hx hb dX1_best_169 rfl (lv_at hl 2 rfl) ?_
                    refine va_get (D := (dC, dI)) (ci := 1) (v := .ref b3) (C := RX1) (T := TX1) (N := 12) hx hb hts hin hown hK hP 0 rfl rfl 4 (by decide) kf16 (fun _ h9 => h9) rfl dX1_best_170 ?_
                    refine lv_iload hx hb dX1_best_173 (lv_at hl 6 rfl) ?_
                    refine tn_lald (i := k) (v := mo k) hx hb hK hP 3 1 rfl rfl (by omega) (by decide) rfl dX1_best_175 ?_
                    refine lv_aload_n hx hb dX1_best_176 rfl (lv_at hl 2 rfl) ?_
                    refine va_get (D := (dC, dI)) (ci := 1) (v := .ref b6) (C := RX1) (T := TX1) (N := 12) hx hb hts hin hown hK hP 0 rfl rfl 9 (by decide) kf27 (fun _ h9 => h9) rfl dX1_best_177 ?_
                    refine lv_iload hx hb dX1_best_180 (lv_at hl 1 rfl) ?_
                    refine tn_lald (i := ((20 * sv) + (sp k))) (v := le1 ((20 * sv) + (sp k))) hx hb hK hP 6 1 rfl rfl (by omega) (by decide) rfl dX1_best_182 ?_
                    refine lv_ladd hx hb dX1_best_183 ?_
                    refine tn_last (i := ((20 * (sv + 1)) + (fp k))) (f' := (vp_updL le1 ((20 * (sv + 1)) + (fp k)) ((mo k) + (le1 ((20 * sv) + (sp k)))))) hx hb hK hP hD hS 6 1 rfl rfl (by omega) (by decide) rfl dX1_best_184 (fun H locs hP hD hS => ?_)
                    have hP : va_P (dC, dI) vwCl (tm_ws h b1 b2 b3 b4 b5 b6 cI cL cZ th cnt fp sp mo on rs rw rl (vp_updL le1 ((20 * (sv + 1)) + (fp k)) ((mo k) + (le1 ((20 * sv) + (sp k))))) bl bs) H := hP
                    have hD : va_D A (tm_ws h b1 b2 b3 b4 b5 b6 cI cL cZ th cnt fp sp mo on rs rw rl (vp_updL le1 ((20 * (sv + 1)) + (fp k)) ((mo k) + (le1 ((20 * sv) + (sp k))))) bl bs) := hD
                    refine lv_iinc (v := nI (k + 1)) (lv' := [(4, .int (nI (k + 1))), (6, .int (nI ((20 * (sv + 1)) + (fp k)))), (5, .int (nI ((20 * sv) + (sp k)))), (0, .ref h), (1, .int (nI i)), (2, .int (nI j)), (3, .int (nI (sv + 1)))]) hx hb dX1_best_185 hl (k := 6) rfl (tn_inc k) (by decide) rfl (fun ls hl => ?_)
                    refine lv_goto (tgt := 74) hx hb dX1_best_188 (by decide) ?_
                    exact ih_loopD (k + 1) _ _ _ _ hkc (by omega) (fun z hz => tm_keepU (hlw z hz) hz (by omega)) (tm_take g hkc ho (by omega) (hlw sv (Nat.le_refl _)) hrk c_133 c_159) hP hD hS (lv_sub hl [3, 4, 5, 6, 0] rfl)
        have loopC : ∀ (n : Nat) (v : Nat) (le1 : Nat → Int64) (H : Heap) (locs : List Loc) (ls : Array Slot), (v ≤ 20) → (20 < v + n) → (∀ z, z ≤ sv → tm_rw (tn_E cnt fp sp mo on) j z le1) → (∀ z, z < v → le1 (20 * (sv + 1) + z) = tn_MX) → va_P (dC, dI) vwCl (tm_ws h b1 b2 b3 b4 b5 b6 cI cL cZ th cnt fp sp mo on rs rw rl le1 bl bs) H → va_D A (tm_ws h b1 b2 b3 b4 b5 b6 cI cL cZ th cnt fp sp mo on rs rw rl le1 bl bs) → va_S A s.heap H locs → lv_has ls 7 [(0, .ref h), (1, .int (nI i)), (2, .int (nI j)), (3, .int (nI (sv + 1))), (4, .int (nI v))] → W p l e (headSpec wsX1_best ({ frames := 0, cells := 0, slots := 0, locals := 0 })).room s m ([.ref h, .int (nI i), .int (nI j)] : List Value).toArray below meth c H locs 0 0 (MQ below (va_Qi (S := (Nat → Int64) × Int64 × Int32) (fun r u => tm_bok (tn_E cnt fp sp mo on) i j u.1 u.2.1 u.2.2 r) (fun u t => tn_at dC dI (tn_tys cI cL cZ) A (tm_ws h b1 b2 b3 b4 b5 b6 cI cL cZ th cnt fp sp mo on rs rw rl u.1 u.2.1 u.2.2) t) A) (([.ref h, .int (nI i), .int (nI j)] : List Value).toArray) s 0 0 A) (F0 m 43 ls []) := by
          intro n
          induction n with
          | zero => intro v le1 H locs ls hv1 hv2 hlw hfill _ _ _ _; exact absurd hv2 (by omega)
          | succ n ih_loopC =>
            intro v le1 H locs ls hv1 hv2 hlw hfill hP hD hS hl
            refine lv_iload hx hb dX1_best_43 (lv_at hl 4 rfl) ?_
            refine lv_bipush (v := nI 20) hx hb dX1_best_45 (by decide) ?_
            refine lv_icmp_ge (tgt := 71) hx hb dX1_best_47 (by decide) (fun c_47 => ?_) (fun c_47 => ?_)
            · skip
              have hv20 : v = 20 := Nat.le_antisymm hv1 ((nI_leI (by omega) (by omega)).mp c_47)
              subst hv20
              refine lv_iconst (v := nI 0) hx hb dX1_best_71 (by decide) ?_
              refine lv_istore (lv' := [(4, .int (nI 0)), (0, .ref h), (1, .int (nI i)), (2, .int (nI j)), (3, .int (nI (sv + 1)))]) hx hb dX1_best_72 hl (by decide) rfl (fun ls hl => ?_)
              exact loopD (cnt + 1) 0 le1 _ _ _ (Nat.zero_le _) (by omega) hlw (tm_rk_0 hfill) hP hD hS (lv_sub hl [1, 2, 3, 4, 0] rfl)
            · skip
              have hv20 : v < 20 := Nat.lt_of_not_le (fun q => c_47 (nI_le q (by omega)))
              refine lv_aload_n hx hb dX1_best_50 rfl (lv_at hl 0 rfl) ?_
              refine va_get (D := (dC, dI)) (ci := 1) (v := .ref b6) (C := RX1) (T := TX1) (N := 12) hx hb hts hin hown hK hP 0 rfl rfl 9 (by decide) kf27 (fun _ h9 => h9) rfl dX1_best_51 ?_
              refine lv_bipush (v := nI 20) hx hb dX1_best_54 (by decide) ?_
              refine lv_iload_n hx hb dX1_best_56 rfl (lv_at hl 3 rfl) ?_
              refine tn_imul (a := 20) (b := (sv + 1)) hx hb dX1_best_57 ?_
              refine lv_iload hx hb dX1_best_58 (lv_at hl 4 rfl) ?_
              refine tn_iadd (a := (20 * (sv + 1))) (b := v) hx hb dX1_best_60 ?_
              refine lv_ldc2 (v := 9223372036854775807) hx hb hown kc37 dX1_best_61 ?_
              refine tn_last (i := ((20 * (sv + 1)) + v)) (f' := (vp_updL le1 ((20 * (sv + 1)) + v) 9223372036854775807)) hx hb hK hP hD hS 6 1 rfl rfl (by omega) (by decide) rfl dX1_best_64 (fun H locs hP hD hS => ?_)
              have hP : va_P (dC, dI) vwCl (tm_ws h b1 b2 b3 b4 b5 b6 cI cL cZ th cnt fp sp mo on rs rw rl (vp_updL le1 ((20 * (sv + 1)) + v) 9223372036854775807) bl bs) H := hP
              have hD : va_D A (tm_ws h b1 b2 b3 b4 b5 b6 cI cL cZ th cnt fp sp mo on rs rw rl (vp_updL le1 ((20 * (sv + 1)) + v) 9223372036854775807) bl bs) := hD
              refine lv_iinc (v := nI (v + 1)) (lv' := [(4, .int (nI (v + 1))), (0, .ref h), (1, .int (nI i)), (2, .int (nI j)), (3, .int (nI (sv + 1)))]) hx hb dX1_best_65 hl (k := 4) rfl (tn_inc v) (by decide) rfl (fun ls hl => ?_)
              refine lv_goto (tgt := 43) hx hb dX1_best_68 (by decide) ?_
              exact ih_loopC (v + 1) _ _ _ _ (by omega) (by omega) (fun z hz => tm_keepU (hlw z hz) hz (by omega)) (tm_fill hfill) hP hD hS (lv_sub hl [1, 2, 3, 4, 0] rfl)
        refine lv_iconst (v := nI 0) hx hb dX1_best_40 (by decide) ?_
        refine lv_istore (lv' := [(4, .int (nI 0)), (0, .ref h), (1, .int (nI i)), (2, .int (nI j)), (3, .int (nI (sv + 1)))]) hx hb dX1_best_41 hl (by decide) rfl (fun ls hl => ?_)
        exact loopC 21 0 le1 _ _ _ (by omega) (by omega) hlw (fun z hz => absurd hz (by omega)) hP hD hS (lv_sub hl [1, 2, 3, 4, 0] rfl)
  have loopA : ∀ (n : Nat) (v : Nat) (le1 : Nat → Int64) (H : Heap) (locs : List Loc) (ls : Array Slot), (v ≤ 20) → (20 < v + n) → (∀ z, z < v → le1 z = if z = j then 0 else tn_MX) → va_P (dC, dI) vwCl (tm_ws h b1 b2 b3 b4 b5 b6 cI cL cZ th cnt fp sp mo on rs rw rl le1 bl bs) H → va_D A (tm_ws h b1 b2 b3 b4 b5 b6 cI cL cZ th cnt fp sp mo on rs rw rl le1 bl bs) → va_S A s.heap H locs → lv_has ls 7 [(0, .ref h), (1, .int (nI i)), (2, .int (nI j)), (3, .int (nI v))] → W p l e (headSpec wsX1_best ({ frames := 0, cells := 0, slots := 0, locals := 0 })).room s m ([.ref h, .int (nI i), .int (nI j)] : List Value).toArray below meth c H locs 0 0 (MQ below (va_Qi (S := (Nat → Int64) × Int64 × Int32) (fun r u => tm_bok (tn_E cnt fp sp mo on) i j u.1 u.2.1 u.2.2 r) (fun u t => tn_at dC dI (tn_tys cI cL cZ) A (tm_ws h b1 b2 b3 b4 b5 b6 cI cL cZ th cnt fp sp mo on rs rw rl u.1 u.2.1 u.2.2) t) A) (([.ref h, .int (nI i), .int (nI j)] : List Value).toArray) s 0 0 A) (F0 m 2 ls []) := by
    intro n
    induction n with
    | zero => intro v le1 H locs ls hv1 hv2 hA0 _ _ _ _; exact absurd hv2 (by omega)
    | succ n ih_loopA =>
      intro v le1 H locs ls hv1 hv2 hA0 hP hD hS hl
      refine lv_iload_n hx hb dX1_best_2 rfl (lv_at hl 3 rfl) ?_
      refine lv_bipush (v := nI 20) hx hb dX1_best_3 (by decide) ?_
      refine lv_icmp_ge (tgt := 32) hx hb dX1_best_5 (by decide) (fun c_5 => ?_) (fun c_5 => ?_)
      · skip
        have hv20 : v = 20 := Nat.le_antisymm hv1 ((nI_leI (by omega) (by omega)).mp c_5)
        subst hv20
        refine lv_iconst (v := nI 1) hx hb dX1_best_32 (by decide) ?_
        refine lv_istore_n (lv' := [(3, .int (nI 1)), (0, .ref h), (1, .int (nI i)), (2, .int (nI j))]) hx hb dX1_best_33 rfl hl (by decide) rfl (fun ls hl => ?_)
        exact loopB 21 0 le1 _ _ _ (by omega) (by omega) (fun z hz => by rw [show z = 0 by omega]; exact tm_rw_0 hA0) hP hD hS (lv_sub hl [1, 2, 3, 0] rfl)
      · skip
        have hv20 : v < 20 := Nat.lt_of_not_le (fun q => c_5 (nI_le q (by omega)))
        refine lv_aload_n hx hb dX1_best_8 rfl (lv_at hl 0 rfl) ?_
        refine va_get (D := (dC, dI)) (ci := 1) (v := .ref b6) (C := RX1) (T := TX1) (N := 12) hx hb hts hin hown hK hP 0 rfl rfl 9 (by decide) kf27 (fun _ h9 => h9) rfl dX1_best_9 ?_
        refine lv_iload_n hx hb dX1_best_12 rfl (lv_at hl 3 rfl) ?_
        refine lv_iload_n hx hb dX1_best_13 rfl (lv_at hl 3 rfl) ?_
        refine lv_iload_n hx hb dX1_best_14 rfl (lv_at hl 2 rfl) ?_
        refine lv_icmp_ne (tgt := 22) hx hb dX1_best_15 (by decide) (fun c_15 => ?_) (fun c_15 => ?_)
        · skip
          have hvj : v ≠ j := fun q => c_15 (by rw [q])
          refine lv_ldc2 (v := 9223372036854775807) hx hb hown kc37 dX1_best_22 ?_
          refine tn_last (i := v) (f' := (vp_updL le1 v 9223372036854775807)) hx hb hK hP hD hS 6 1 rfl rfl (by omega) (by decide) rfl dX1_best_25 (fun H locs hP hD hS => ?_)
          have hP : va_P (dC, dI) vwCl (tm_ws h b1 b2 b3 b4 b5 b6 cI cL cZ th cnt fp sp mo on rs rw rl (vp_updL le1 v 9223372036854775807) bl bs) H := hP
          have hD : va_D A (tm_ws h b1 b2 b3 b4 b5 b6 cI cL cZ th cnt fp sp mo on rs rw rl (vp_updL le1 v 9223372036854775807) bl bs) := hD
          refine lv_iinc (v := nI (v + 1)) (lv' := [(3, .int (nI (v + 1))), (0, .ref h), (1, .int (nI i)), (2, .int (nI j))]) hx hb dX1_best_26 hl (k := 3) rfl (tn_inc v) (by decide) rfl (fun ls hl => ?_)
          refine lv_goto (tgt := 2) hx hb dX1_best_29 (by decide) ?_
          exact ih_loopA (v + 1) _ _ _ _ (by omega) (by omega) (tm_A0 hA0 (by rw [if_neg hvj])) hP hD hS (lv_sub hl [1, 2, 3, 0] rfl)
        · skip
          have hvj : v = j := (nI_eq (by omega) (by omega)).mp c_15
          refine lv_lconst (v := 0) hx hb dX1_best_18 (by decide) ?_
          refine lv_goto (tgt := 25) hx hb dX1_best_19 (by decide) ?_
          refine tn_last (i := v) (f' := (vp_updL le1 v 0)) hx hb hK hP hD hS 6 1 rfl rfl (by omega) (by decide) rfl dX1_best_25 (fun H locs hP hD hS => ?_)
          have hP : va_P (dC, dI) vwCl (tm_ws h b1 b2 b3 b4 b5 b6 cI cL cZ th cnt fp sp mo on rs rw rl (vp_updL le1 v 0) bl bs) H := hP
          have hD : va_D A (tm_ws h b1 b2 b3 b4 b5 b6 cI cL cZ th cnt fp sp mo on rs rw rl (vp_updL le1 v 0) bl bs) := hD
          refine lv_iinc (v := nI (v + 1)) (lv' := [(3, .int (nI (v + 1))), (0, .ref h), (1, .int (nI i)), (2, .int (nI j))]) hx hb dX1_best_26 hl (k := 3) rfl (tn_inc v) (by decide) rfl (fun ls hl => ?_)
          refine lv_goto (tgt := 2) hx hb dX1_best_29 (by decide) ?_
          exact ih_loopA (v + 1) _ _ _ _ (by omega) (by omega) (tm_A0 hA0 (by rw [if_pos hvj])) hP hD hS (lv_sub hl [1, 2, 3, 0] rfl)
  refine lv_iconst (v := nI 0) hx hb dX1_best_0 (by decide) ?_
  refine lv_istore_n (lv' := [(3, .int (nI 0)), (0, .ref h), (1, .int (nI i)), (2, .int (nI j))]) hx hb dX1_best_1 rfl hl (by decide) rfl (fun ls hl => ?_)
  exact loopA 21 0 le _ _ _ (by omega) (by omega) (fun z hz => absurd hz (by omega)) hP hD hS (lv_sub hl [1, 2, 3, 0] rfl)
