set_option maxHeartbeats 4000000 in
set_option maxRecDepth 100000 in
theorem law_c0 {p : Program} {l : Launch} {e : Env} {s : State} {m : MethodId} {below : List Frame} {meth : Method} {c : Code} {b L : Nat} {xs : Nat → Int32} {dC : Nat → ClassId} {dI : Nat → Nat → Nat} {h a1 a2 a3 a4 a5 a6 a7 k0 b1 b2 b3 b4 b5 b6 ao : Nat} {cI cL cZ : ClassId} (C : tl_C p l s m meth c b L xs dC dI cI cL cZ) {q : Nat} (hq : 5 * q + 5 ≤ L) (K : tl_K p l e s m below meth c b dC dI h a1 a2 a3 a4 a5 a6 a7 k0 b1 b2 b3 b4 b5 b6 ao cI cL cZ q 518 (16 + (q + 1)) (1489 + 6 * (q + 1))) : tl_K p l e s m below meth c b dC dI h a1 a2 a3 a4 a5 a6 a7 k0 b1 b2 b3 b4 b5 b6 ao cI cL cZ q 100 (16 + q) (1489 + 6 * q) := by
  obtain ⟨C0, hK, hfc, hZs, hst, hL⟩ := C
  obtain ⟨hx, hb, hr, hml, hown, hts0, hX, hbl, hlocks, hgv⟩ := C0
  have hts := fun w h => hts0 w (wsL_law_in w h)
  have hown : s.vm.findClass RL = some m.cls := hown
  have hA : ∀ q : Nat, s.heap.size ≤ q → (fun q : Nat => s.heap.size ≤ q) q := fun _ h => h
  have hbA : ¬ (fun q : Nat => s.heap.size ≤ q) b := Nat.not_le.mpr hbl
  have kc23 := hts (.constantLong RL 23 (4294967295)) (by decide +kernel)
  intro cnt onc fp sp mo on lf sf rp rs rl th cnt2 fp2 sp2 mo2 on2 rs2 rw rl2 le bl bs ov H locs ls hinv hPx hPm hPo hD hS hl
  obtain ⟨⟨e1, e2, e3, e4, e5, e6, e7⟩, -⟩ := id hinv
  have e1 := e1.symm
  subst e1
  have e2 := e2.symm
  subst e2
  have e3 := e3.symm
  subst e3
  have e4 := e4.symm
  subst e4
  have e5 := e5.symm
  subst e5
  have e6 := e6.symm
  subst e6
  have e7 := e7.symm
  subst e7
  obtain ⟨-, g, ok, hoc, hrs, hrow, hrl⟩ := id hinv
  refine lv_aload_n hx hb dL_law_100 rfl (lv_at hl 1 rfl) ?_
  refine lv_aload_n hx hb dL_law_101 rfl (lv_at hl 0 rfl) ?_
  refine lv_iload hx hb dL_law_102 (lv_at hl 4 rfl) ?_
  refine lv_iconst (v := nI 1) hx hb dL_law_104 (by decide) ?_
  refine tn_iadd (a := (5 * q)) (b := 1) hx hb dL_law_105 ?_
  refine tn_sld (i := ((5 * q) + 1)) hx hb hX hbl hbA hS (by omega) (by omega) dL_law_106 ?_
  refine lv_aload_n hx hb dL_law_107 rfl (lv_at hl 0 rfl) ?_
  refine lv_iload hx hb dL_law_108 (lv_at hl 4 rfl) ?_
  refine lv_iconst (v := nI 2) hx hb dL_law_110 (by decide) ?_
  refine tn_iadd (a := (5 * q)) (b := 2) hx hb dL_law_111 ?_
  refine tn_sld (i := ((5 * q) + 2)) hx hb hX hbl hbA hS (by omega) (by omega) dL_law_112 ?_
  refine lv_aload_n hx hb dL_law_113 rfl (lv_at hl 0 rfl) ?_
  refine lv_iload hx hb dL_law_114 (lv_at hl 4 rfl) ?_
  refine lv_iconst (v := nI 3) hx hb dL_law_116 (by decide) ?_
  refine tn_iadd (a := (5 * q)) (b := 3) hx hb dL_law_117 ?_
  refine tn_sld (i := ((5 * q) + 3)) hx hb hX hbl hbA hS (by omega) (by omega) dL_law_118 ?_
  refine lv_i2l hx hb dL_law_119 rfl ?_
  refine lv_bipush (v := nI 32) hx hb dL_law_120 (by decide) ?_
  refine lv_lshl hx hb dL_law_122 rfl ?_
  refine lv_aload_n hx hb dL_law_123 rfl (lv_at hl 0 rfl) ?_
  refine lv_iload hx hb dL_law_124 (lv_at hl 4 rfl) ?_
  refine lv_iconst (v := nI 4) hx hb dL_law_126 (by decide) ?_
  refine tn_iadd (a := (5 * q)) (b := 4) hx hb dL_law_127 ?_
  refine tn_sld (i := ((5 * q) + 4)) hx hb hX hbl hbA hS (by omega) (by omega) dL_law_128 ?_
  refine lv_i2l hx hb dL_law_129 rfl ?_
  refine lv_ldc2 (v := 4294967295) hx hb hown kc23 dL_law_130 ?_
  refine lv_land hx hb dL_law_133 ?_
  refine lv_lor hx hb dL_law_134 ?_
  have hDc := hD
  have hF := tn_freeA (tn_D_l hDc) hS hA
  refine va_calli (va_runV (As := [.int (xs ((5 * q) + 1)), .int (xs ((5 * q) + 2)), .long ((((xs ((5 * q) + 3)).toInt64) <<< ((nI 32).toInt64 &&& 63)) ||| (((xs ((5 * q) + 4)).toInt64) &&& 4294967295))]) (rest := []) ⟨hx, hb, hml, hown, hts⟩ (cX0_add_ok l dC dI h a1 a2 a3 a4 a5 a6 a7 cI cL cZ cnt onc fp sp mo on lf sf rp rs rl H.size g ok (xs (5 * q + 1)) (xs (5 * q + 2)) (((xs (5 * q + 3)).toInt64 <<< ((nI 32).toInt64 &&& 63)) ||| ((xs (5 * q + 4)).toInt64 &&& 4294967295))) (cwV 3 hts gL_law_X0_add rfl rfl rfl (by decide +kernel) ⟨Nat.le_of_ble_eq_true rfl, Nat.le_of_ble_eq_true rfl⟩) (tn_preV hK hPx (tn_D_l hDc) (ci := 0) rfl 0 rfl) rfl rfl hl.1 rfl (lv_room (Nat.le_of_ble_eq_true rfl)) dL_law_135 ⟨by show 16 + q + 0 ≤ 1042; omega, by show 1489 + 6 * q + 0 ≤ 9693; omega⟩) hS (fun q _ h => hF q h) hF (fun r_135 u_135 t H1 locs ht hvm hw_135 hB hz1 hk1 hS => ?_)
  obtain ⟨hPx, -, hD1⟩ := hB
  rw [ht] at hPx
  obtain ⟨hR, hD⟩ := tn_side (va_P.app hPm hPo) hDc hk1 hF hD1
  have hPm := tn_P_l hR
  have hPo := tn_P_r hR
  refine W.cs (cells' := 16 + q) (slots' := 1489 + 6 * q) (Nat.add_zero _) (Nat.add_zero _) ?_
  clear hDc hF hz1 hk1 hD1 ht hvm
  clear hR
  generalize H1 = H at hPx hPm hPo hS ⊢
  refine lv_aload_n hx hb dL_law_138 rfl (lv_at hl 2 rfl) ?_
  refine lv_aload_n hx hb dL_law_139 rfl (lv_at hl 0 rfl) ?_
  refine lv_iload hx hb dL_law_140 (lv_at hl 4 rfl) ?_
  refine lv_iconst (v := nI 1) hx hb dL_law_142 (by decide) ?_
  refine tn_iadd (a := (5 * q)) (b := 1) hx hb dL_law_143 ?_
  refine tn_sld (i := ((5 * q) + 1)) hx hb hX hbl hbA hS (by omega) (by omega) dL_law_144 ?_
  refine lv_aload_n hx hb dL_law_145 rfl (lv_at hl 0 rfl) ?_
  refine lv_iload hx hb dL_law_146 (lv_at hl 4 rfl) ?_
  refine lv_iconst (v := nI 2) hx hb dL_law_148 (by decide) ?_
  refine tn_iadd (a := (5 * q)) (b := 2) hx hb dL_law_149 ?_
  refine tn_sld (i := ((5 * q) + 2)) hx hb hX hbl hbA hS (by omega) (by omega) dL_law_150 ?_
  refine lv_aload_n hx hb dL_law_151 rfl (lv_at hl 0 rfl) ?_
  refine lv_iload hx hb dL_law_152 (lv_at hl 4 rfl) ?_
  refine lv_iconst (v := nI 3) hx hb dL_law_154 (by decide) ?_
  refine tn_iadd (a := (5 * q)) (b := 3) hx hb dL_law_155 ?_
  refine tn_sld (i := ((5 * q) + 3)) hx hb hX hbl hbA hS (by omega) (by omega) dL_law_156 ?_
  refine lv_i2l hx hb dL_law_157 rfl ?_
  refine lv_bipush (v := nI 32) hx hb dL_law_158 (by decide) ?_
  refine lv_lshl hx hb dL_law_160 rfl ?_
  refine lv_aload_n hx hb dL_law_161 rfl (lv_at hl 0 rfl) ?_
  refine lv_iload hx hb dL_law_162 (lv_at hl 4 rfl) ?_
  refine lv_iconst (v := nI 4) hx hb dL_law_164 (by decide) ?_
  refine tn_iadd (a := (5 * q)) (b := 4) hx hb dL_law_165 ?_
  refine tn_sld (i := ((5 * q) + 4)) hx hb hX hbl hbA hS (by omega) (by omega) dL_law_166 ?_
  refine lv_i2l hx hb dL_law_167 rfl ?_
  refine lv_ldc2 (v := 4294967295) hx hb hown kc23 dL_law_168 ?_
  refine lv_land hx hb dL_law_171 ?_
  refine lv_lor hx hb dL_law_172 ?_
  have hDc := tn_D_swap hD
  rw [List.append_assoc] at hDc
  have hF := tn_freeA (tn_D_l hDc) hS hA
  refine va_calli (va_runV (As := [.int (xs ((5 * q) + 1)), .int (xs ((5 * q) + 2)), .long ((((xs ((5 * q) + 3)).toInt64) <<< ((nI 32).toInt64 &&& 63)) ||| (((xs ((5 * q) + 4)).toInt64) &&& 4294967295))]) (rest := [.int r_135]) ⟨hx, hb, hml, hown, hts⟩ (cX1_add_ok l dC dI k0 b1 b2 b3 b4 b5 b6 cI cL cZ th cnt fp sp mo on rs rw rl le bl bs H.size g ok (xs (5 * q + 1)) (xs (5 * q + 2)) (((xs (5 * q + 3)).toInt64 <<< ((nI 32).toInt64 &&& 63)) ||| ((xs (5 * q + 4)).toInt64 &&& 4294967295))) (cwV 3 hts gL_law_X1_add rfl rfl rfl (by decide +kernel) ⟨Nat.le_of_ble_eq_true rfl, Nat.le_of_ble_eq_true rfl⟩) (tn_preV hK hPm (tn_D_l hDc) (ci := 1) rfl 0 rfl) rfl rfl hl.1 rfl (lv_room (Nat.le_of_ble_eq_true rfl)) dL_law_173 ⟨by show 16 + q + 0 ≤ 1042; omega, by show 1489 + 6 * q + 0 ≤ 9693; omega⟩) hS (fun q _ h => hF q h) hF (fun r_173 u_173 t H1 locs ht hvm hw_173 hB hz1 hk1 hS => ?_)
  obtain ⟨hPm, -, hD1⟩ := hB
  rw [ht] at hPm
  obtain ⟨hR, hD9⟩ := tn_side (va_P.app hPo hPx) hDc hk1 hF hD1
  have hPo := tn_P_l hR
  have hPx := tn_P_r hR
  rw [← List.append_assoc] at hD9
  have hD := tn_D_swap hD9
  refine W.cs (cells' := 16 + q) (slots' := 1489 + 6 * q) (Nat.add_zero _) (Nat.add_zero _) ?_
  clear hDc hF hz1 hk1 hD1 ht hvm
  clear hR
  generalize H1 = H at hPx hPm hPo hS ⊢
  refine lv_icmp_eq (tgt := 518) hx hb dL_law_176 (by decide) (fun c_176 => ?_) (fun c_176 => ?_)
  · skip
    refine W.widen (k := 16 + (q + 1)) (n := 1489 + 6 * (q + 1)) (by omega) (by omega) ?_
    exact K _ _ _ _ _ _ _ _ _ _ _ _ _ _ _ _ _ _ _ _ _ _ _ _ _ _ _ (tl_add hinv hw_135.1 hw_135.2 hw_173).2 hPx hPm hPo hD hS (lv_sub hl [0, 1, 2, 3, 4] rfl)
  · skip
    exact absurd (tl_add hinv hw_135.1 hw_135.2 hw_173).1 c_176
set_option maxHeartbeats 4000000 in
set_option maxRecDepth 100000 in
theorem law_c1 {p : Program} {l : Launch} {e : Env} {s : State} {m : MethodId} {below : List Frame} {meth : Method} {c : Code} {b L : Nat} {xs : Nat → Int32} {dC : Nat → ClassId} {dI : Nat → Nat → Nat} {h a1 a2 a3 a4 a5 a6 a7 k0 b1 b2 b3 b4 b5 b6 ao : Nat} {cI cL cZ : ClassId} (C : tl_C p l s m meth c b L xs dC dI cI cL cZ) {q : Nat} (hq : 5 * q + 5 ≤ L) (K : tl_K p l e s m below meth c b dC dI h a1 a2 a3 a4 a5 a6 a7 k0 b1 b2 b3 b4 b5 b6 ao cI cL cZ q 518 (16 + (q + 1)) (1489 + 6 * (q + 1))) : tl_K p l e s m below meth c b dC dI h a1 a2 a3 a4 a5 a6 a7 k0 b1 b2 b3 b4 b5 b6 ao cI cL cZ q 181 (16 + q) (1489 + 6 * q) := by
  obtain ⟨C0, hK, hfc, hZs, hst, hL⟩ := C
  obtain ⟨hx, hb, hr, hml, hown, hts0, hX, hbl, hlocks, hgv⟩ := C0
  have hts := fun w h => hts0 w (wsL_law_in w h)
  have hown : s.vm.findClass RL = some m.cls := hown
  have hA : ∀ q : Nat, s.heap.size ≤ q → (fun q : Nat => s.heap.size ≤ q) q := fun _ h => h
  have hbA : ¬ (fun q : Nat => s.heap.size ≤ q) b := Nat.not_le.mpr hbl
  intro cnt onc fp sp mo on lf sf rp rs rl th cnt2 fp2 sp2 mo2 on2 rs2 rw rl2 le bl bs ov H locs ls hinv hPx hPm hPo hD hS hl
  obtain ⟨⟨e1, e2, e3, e4, e5, e6, e7⟩, -⟩ := id hinv
  have e1 := e1.symm
  subst e1
  have e2 := e2.symm
  subst e2
  have e3 := e3.symm
  subst e3
  have e4 := e4.symm
  subst e4
  have e5 := e5.symm
  subst e5
  have e6 := e6.symm
  subst e6
  have e7 := e7.symm
  subst e7
  obtain ⟨-, g, ok, hoc, hrs, hrow, hrl⟩ := id hinv
  refine lv_aload_n hx hb dL_law_181 rfl (lv_at hl 1 rfl) ?_
  refine lv_aload_n hx hb dL_law_182 rfl (lv_at hl 0 rfl) ?_
  refine lv_iload hx hb dL_law_183 (lv_at hl 4 rfl) ?_
  refine lv_iconst (v := nI 1) hx hb dL_law_185 (by decide) ?_
  refine tn_iadd (a := (5 * q)) (b := 1) hx hb dL_law_186 ?_
  refine tn_sld (i := ((5 * q) + 1)) hx hb hX hbl hbA hS (by omega) (by omega) dL_law_187 ?_
  have hDc := hD
  have hF := tn_freeA (tn_D_l hDc) hS hA
  refine va_calli (va_runV (As := [.int (xs ((5 * q) + 1))]) (rest := []) ⟨hx, hb, hml, hown, hts⟩ (cX0_off_ok l dC dI h a1 a2 a3 a4 a5 a6 a7 cI cL cZ cnt onc fp sp mo on lf sf rp rs rl H.size g.1 hoc (xs (5 * q + 1))) (cwV 1 hts gL_law_X0_off rfl rfl rfl (by decide +kernel) ⟨Nat.le_of_ble_eq_true rfl, Nat.le_of_ble_eq_true rfl⟩) (tn_preV hK hPx (tn_D_l hDc) (ci := 0) rfl 0 rfl) rfl rfl hl.1 rfl (lv_room (Nat.le_of_ble_eq_true rfl)) dL_law_188 ⟨by show 16 + q + 0 ≤ 1042; omega, by show 1489 + 6 * q + 0 ≤ 9693; omega⟩) hS (fun q _ h => hF q h) hF (fun r_188 u_188 t H1 locs ht hvm hw_188 hB hz1 hk1 hS => ?_)
  obtain ⟨hPx, -, hD1⟩ := hB
  rw [ht] at hPx
  obtain ⟨hR, hD⟩ := tn_side (va_P.app hPm hPo) hDc hk1 hF hD1
  have hPm := tn_P_l hR
  have hPo := tn_P_r hR
  refine W.cs (cells' := 16 + q) (slots' := 1489 + 6 * q) (Nat.add_zero _) (Nat.add_zero _) ?_
  clear hDc hF hz1 hk1 hD1 ht hvm
  clear hR
  generalize H1 = H at hPx hPm hPo hS ⊢
  refine lv_aload_n hx hb dL_law_191 rfl (lv_at hl 2 rfl) ?_
  refine lv_aload_n hx hb dL_law_192 rfl (lv_at hl 0 rfl) ?_
  refine lv_iload hx hb dL_law_193 (lv_at hl 4 rfl) ?_
  refine lv_iconst (v := nI 1) hx hb dL_law_195 (by decide) ?_
  refine tn_iadd (a := (5 * q)) (b := 1) hx hb dL_law_196 ?_
  refine tn_sld (i := ((5 * q) + 1)) hx hb hX hbl hbA hS (by omega) (by omega) dL_law_197 ?_
  have hDc := tn_D_swap hD
  rw [List.append_assoc] at hDc
  have hF := tn_freeA (tn_D_l hDc) hS hA
  refine va_calli (va_runV (As := [.int (xs ((5 * q) + 1))]) (rest := [.int r_188]) ⟨hx, hb, hml, hown, hts⟩ (cX1_off_ok l dC dI k0 b1 b2 b3 b4 b5 b6 cI cL cZ th cnt fp sp mo on rs rw rl le bl bs H.size g.1 (xs (5 * q + 1))) (cwV 1 hts gL_law_X1_off rfl rfl rfl (by decide +kernel) ⟨Nat.le_of_ble_eq_true rfl, Nat.le_of_ble_eq_true rfl⟩) (tn_preV hK hPm (tn_D_l hDc) (ci := 1) rfl 0 rfl) rfl rfl hl.1 rfl (lv_room (Nat.le_of_ble_eq_true rfl)) dL_law_198 ⟨by show 16 + q + 0 ≤ 1042; omega, by show 1489 + 6 * q + 0 ≤ 9693; omega⟩) hS (fun q _ h => hF q h) hF (fun r_198 u_198 t H1 locs ht hvm hw_198 hB hz1 hk1 hS => ?_)
  obtain ⟨hPm, -, hD1⟩ := hB
  rw [ht] at hPm
  obtain ⟨hR, hD9⟩ := tn_side (va_P.app hPo hPx) hDc hk1 hF hD1
  have hPo := tn_P_l hR
  have hPx := tn_P_r hR
  rw [← List.append_assoc] at hD9
  have hD := tn_D_swap hD9
  refine W.cs (cells' := 16 + q) (slots' := 1489 + 6 * q) (Nat.add_zero _) (Nat.add_zero _) ?_
  clear hDc hF hz1 hk1 hD1 ht hvm
  clear hR
  generalize H1 = H at hPx hPm hPo hS ⊢
  refine lv_icmp_eq (tgt := 518) hx hb dL_law_201 (by decide) (fun c_201 => ?_) (fun c_201 => ?_)
  · skip
    refine W.widen (k := 16 + (q + 1)) (n := 1489 + 6 * (q + 1)) (by omega) (by omega) ?_
    exact K _ _ _ _ _ _ _ _ _ _ _ _ _ _ _ _ _ _ _ _ _ _ _ _ _ _ _ (tl_off hinv hw_188.1 hw_188.2 hw_198).2 hPx hPm hPo hD hS (lv_sub hl [0, 1, 2, 3, 4] rfl)
  · skip
    exact absurd (tl_off hinv hw_188.1 hw_188.2 hw_198).1 c_201
set_option maxHeartbeats 4000000 in
set_option maxRecDepth 100000 in
theorem law_c2 {p : Program} {l : Launch} {e : Env} {s : State} {m : MethodId} {below : List Frame} {meth : Method} {c : Code} {b L : Nat} {xs : Nat → Int32} {dC : Nat → ClassId} {dI : Nat → Nat → Nat} {h a1 a2 a3 a4 a5 a6 a7 k0 b1 b2 b3 b4 b5 b6 ao : Nat} {cI cL cZ : ClassId} (C : tl_C p l s m meth c b L xs dC dI cI cL cZ) {q : Nat} (hq : 5 * q + 5 ≤ L) (K : tl_K p l e s m below meth c b dC dI h a1 a2 a3 a4 a5 a6 a7 k0 b1 b2 b3 b4 b5 b6 ao cI cL cZ q 518 (16 + (q + 1)) (1489 + 6 * (q + 1))) : tl_K p l e s m below meth c b dC dI h a1 a2 a3 a4 a5 a6 a7 k0 b1 b2 b3 b4 b5 b6 ao cI cL cZ q 206 (16 + q) (1489 + 6 * q) := by
  obtain ⟨C0, hK, hfc, hZs, hst, hL⟩ := C
  obtain ⟨hx, hb, hr, hml, hown, hts0, hX, hbl, hlocks, hgv⟩ := C0
  have hts := fun w h => hts0 w (wsL_law_in w h)
  have hown : s.vm.findClass RL = some m.cls := hown
  have hA : ∀ q : Nat, s.heap.size ≤ q → (fun q : Nat => s.heap.size ≤ q) q := fun _ h => h
  have hbA : ¬ (fun q : Nat => s.heap.size ≤ q) b := Nat.not_le.mpr hbl
  intro cnt onc fp sp mo on lf sf rp rs rl th cnt2 fp2 sp2 mo2 on2 rs2 rw rl2 le bl bs ov H locs ls hinv hPx hPm hPo hD hS hl
  obtain ⟨⟨e1, e2, e3, e4, e5, e6, e7⟩, -⟩ := id hinv
  have e1 := e1.symm
  subst e1
  have e2 := e2.symm
  subst e2
  have e3 := e3.symm
  subst e3
  have e4 := e4.symm
  subst e4
  have e5 := e5.symm
  subst e5
  have e6 := e6.symm
  subst e6
  have e7 := e7.symm
  subst e7
  obtain ⟨-, g, ok, hoc, hrs, hrow, hrl⟩ := id hinv
  refine lv_aload_n hx hb dL_law_206 rfl (lv_at hl 1 rfl) ?_
  refine lv_aload_n hx hb dL_law_207 rfl (lv_at hl 0 rfl) ?_
  refine lv_iload hx hb dL_law_208 (lv_at hl 4 rfl) ?_
  refine lv_iconst (v := nI 1) hx hb dL_law_210 (by decide) ?_
  refine tn_iadd (a := (5 * q)) (b := 1) hx hb dL_law_211 ?_
  refine tn_sld (i := ((5 * q) + 1)) hx hb hX hbl hbA hS (by omega) (by omega) dL_law_212 ?_
  have hDc := hD
  have hF := tn_freeA (tn_D_l hDc) hS hA
  refine va_calli (va_runV (As := [.int (xs ((5 * q) + 1))]) (rest := []) ⟨hx, hb, hml, hown, hts⟩ (cX0_on_ok l dC dI h a1 a2 a3 a4 a5 a6 a7 cI cL cZ cnt onc fp sp mo on lf sf rp rs rl H.size g ok hoc (xs (5 * q + 1))) (cwV 1 hts gL_law_X0_on rfl rfl rfl (by decide +kernel) ⟨Nat.le_of_ble_eq_true rfl, Nat.le_of_ble_eq_true rfl⟩) (tn_preV hK hPx (tn_D_l hDc) (ci := 0) rfl 0 rfl) rfl rfl hl.1 rfl (lv_room (Nat.le_of_ble_eq_true rfl)) dL_law_213 ⟨by show 16 + q + 0 ≤ 1042; omega, by show 1489 + 6 * q + 0 ≤ 9693; omega⟩) hS (fun q _ h => hF q h) hF (fun r_213 u_213 t H1 locs ht hvm hw_213 hB hz1 hk1 hS => ?_)
  obtain ⟨hPx, -, hD1⟩ := hB
  rw [ht] at hPx
  obtain ⟨hR, hD⟩ := tn_side (va_P.app hPm hPo) hDc hk1 hF hD1
  have hPm := tn_P_l hR
  have hPo := tn_P_r hR
  refine W.cs (cells' := 16 + q) (slots' := 1489 + 6 * q) (Nat.add_zero _) (Nat.add_zero _) ?_
  clear hDc hF hz1 hk1 hD1 ht hvm
  clear hR
  generalize H1 = H at hPx hPm hPo hS ⊢
  refine lv_aload_n hx hb dL_law_216 rfl (lv_at hl 2 rfl) ?_
  refine lv_aload_n hx hb dL_law_217 rfl (lv_at hl 0 rfl) ?_
  refine lv_iload hx hb dL_law_218 (lv_at hl 4 rfl) ?_
  refine lv_iconst (v := nI 1) hx hb dL_law_220 (by decide) ?_
  refine tn_iadd (a := (5 * q)) (b := 1) hx hb dL_law_221 ?_
  refine tn_sld (i := ((5 * q) + 1)) hx hb hX hbl hbA hS (by omega) (by omega) dL_law_222 ?_
  have hDc := tn_D_swap hD
  rw [List.append_assoc] at hDc
  have hF := tn_freeA (tn_D_l hDc) hS hA
  refine va_calli (va_runV (As := [.int (xs ((5 * q) + 1))]) (rest := [.int r_213]) ⟨hx, hb, hml, hown, hts⟩ (cX1_on_ok l dC dI k0 b1 b2 b3 b4 b5 b6 cI cL cZ th cnt fp sp mo on rs rw rl le bl bs H.size g ok (xs (5 * q + 1))) (cwV 1 hts gL_law_X1_on rfl rfl rfl (by decide +kernel) ⟨Nat.le_of_ble_eq_true rfl, Nat.le_of_ble_eq_true rfl⟩) (tn_preV hK hPm (tn_D_l hDc) (ci := 1) rfl 0 rfl) rfl rfl hl.1 rfl (lv_room (Nat.le_of_ble_eq_true rfl)) dL_law_223 ⟨by show 16 + q + 0 ≤ 1042; omega, by show 1489 + 6 * q + 0 ≤ 9693; omega⟩) hS (fun q _ h => hF q h) hF (fun r_223 u_223 t H1 locs ht hvm hw_223 hB hz1 hk1 hS => ?_)
  obtain ⟨hPm, -, hD1⟩ := hB
  rw [ht] at hPm
  obtain ⟨hR, hD9⟩ := tn_side (va_P.app hPo hPx) hDc hk1 hF hD1
  have hPo := tn_P_l hR
  have hPx := tn_P_r hR
  rw [← List.append_assoc] at hD9
  have hD := tn_D_swap hD9
  refine W.cs (cells' := 16 + q) (slots' := 1489 + 6 * q) (Nat.add_zero _) (Nat.add_zero _) ?_
  clear hDc hF hz1 hk1 hD1 ht hvm
  clear hR
  generalize H1 = H at hPx hPm hPo hS ⊢
  refine lv_icmp_eq (tgt := 518) hx hb dL_law_226 (by decide) (fun c_226 => ?_) (fun c_226 => ?_)
  · skip
    refine W.widen (k := 16 + (q + 1)) (n := 1489 + 6 * (q + 1)) (by omega) (by omega) ?_
    exact K _ _ _ _ _ _ _ _ _ _ _ _ _ _ _ _ _ _ _ _ _ _ _ _ _ _ _ (tl_on hinv hw_213.1 hw_213.2 hw_223).2 hPx hPm hPo hD hS (lv_sub hl [0, 1, 2, 3, 4] rfl)
  · skip
    exact absurd (tl_on hinv hw_213.1 hw_213.2 hw_223).1 c_226
set_option maxHeartbeats 4000000 in
set_option maxRecDepth 100000 in
theorem law_c4 {p : Program} {l : Launch} {e : Env} {s : State} {m : MethodId} {below : List Frame} {meth : Method} {c : Code} {b L : Nat} {xs : Nat → Int32} {dC : Nat → ClassId} {dI : Nat → Nat → Nat} {h a1 a2 a3 a4 a5 a6 a7 k0 b1 b2 b3 b4 b5 b6 ao : Nat} {cI cL cZ : ClassId} (C : tl_C p l s m meth c b L xs dC dI cI cL cZ) {q : Nat} (hq : 5 * q + 5 ≤ L) (K : tl_K p l e s m below meth c b dC dI h a1 a2 a3 a4 a5 a6 a7 k0 b1 b2 b3 b4 b5 b6 ao cI cL cZ q 518 (16 + (q + 1)) (1489 + 6 * (q + 1))) : tl_K p l e s m below meth c b dC dI h a1 a2 a3 a4 a5 a6 a7 k0 b1 b2 b3 b4 b5 b6 ao cI cL cZ q 298 (16 + q) (1489 + 6 * q) := by
  obtain ⟨C0, hK, hfc, hZs, hst, hL⟩ := C
  obtain ⟨hx, hb, hr, hml, hown, hts0, hX, hbl, hlocks, hgv⟩ := C0
  have hts := fun w h => hts0 w (wsL_law_in w h)
  have hown : s.vm.findClass RL = some m.cls := hown
  have hA : ∀ q : Nat, s.heap.size ≤ q → (fun q : Nat => s.heap.size ≤ q) q := fun _ h => h
  have hbA : ¬ (fun q : Nat => s.heap.size ≤ q) b := Nat.not_le.mpr hbl
  intro cnt onc fp sp mo on lf sf rp rs rl th cnt2 fp2 sp2 mo2 on2 rs2 rw rl2 le bl bs ov H locs ls hinv hPx hPm hPo hD hS hl
  obtain ⟨⟨e1, e2, e3, e4, e5, e6, e7⟩, -⟩ := id hinv
  have e1 := e1.symm
  subst e1
  have e2 := e2.symm
  subst e2
  have e3 := e3.symm
  subst e3
  have e4 := e4.symm
  subst e4
  have e5 := e5.symm
  subst e5
  have e6 := e6.symm
  subst e6
  have e7 := e7.symm
  subst e7
  obtain ⟨-, g, ok, hoc, hrs, hrow, hrl⟩ := id hinv
  refine lv_aload_n hx hb dL_law_298 rfl (lv_at hl 1 rfl) ?_
  refine lv_aload_n hx hb dL_law_299 rfl (lv_at hl 0 rfl) ?_
  refine lv_iload hx hb dL_law_300 (lv_at hl 4 rfl) ?_
  refine lv_iconst (v := nI 1) hx hb dL_law_302 (by decide) ?_
  refine tn_iadd (a := (5 * q)) (b := 1) hx hb dL_law_303 ?_
  refine tn_sld (i := ((5 * q) + 1)) hx hb hX hbl hbA hS (by omega) (by omega) dL_law_304 ?_
  refine lv_aload_n hx hb dL_law_305 rfl (lv_at hl 0 rfl) ?_
  refine lv_iload hx hb dL_law_306 (lv_at hl 4 rfl) ?_
  refine lv_iconst (v := nI 2) hx hb dL_law_308 (by decide) ?_
  refine tn_iadd (a := (5 * q)) (b := 2) hx hb dL_law_309 ?_
  refine tn_sld (i := ((5 * q) + 2)) hx hb hX hbl hbA hS (by omega) (by omega) dL_law_310 ?_
  have hDc := hD
  have hF := tn_freeA (tn_D_l hDc) hS hA
  refine va_calli (va_runV (As := [.int (xs ((5 * q) + 1)), .int (xs ((5 * q) + 2))]) (rest := []) ⟨hx, hb, hml, hown, hts⟩ (cX0_steps_ok l dC dI h a1 a2 a3 a4 a5 a6 a7 cI cL cZ cnt onc fp sp mo on lf sf rp rs rl H.size g ok (xs (5 * q + 1)) (xs (5 * q + 2))) (cwV 2 hts gL_law_X0_steps rfl rfl rfl (by decide +kernel) ⟨Nat.le_of_ble_eq_true rfl, Nat.le_of_ble_eq_true rfl⟩) (tn_preV hK hPx (tn_D_l hDc) (ci := 0) rfl 0 rfl) rfl rfl hl.1 rfl (lv_room (Nat.le_of_ble_eq_true rfl)) dL_law_311 ⟨by show 16 + q + 0 ≤ 1042; omega, by show 1489 + 6 * q + 0 ≤ 9693; omega⟩) hS (fun q _ h => hF q h) hF (fun r_311 u_311 t H1 locs ht hvm hw_311 hB hz1 hk1 hS => ?_)
  obtain ⟨hPx, -, hD1⟩ := hB
  rw [ht] at hPx
  obtain ⟨hR, hD⟩ := tn_side (va_P.app hPm hPo) hDc hk1 hF hD1
  have hPm := tn_P_l hR
  have hPo := tn_P_r hR
  refine W.cs (cells' := 16 + q) (slots' := 1489 + 6 * q) (Nat.add_zero _) (Nat.add_zero _) ?_
  clear hDc hF hz1 hk1 hD1 ht hvm
  clear hR
  generalize H1 = H at hPx hPm hPo hS ⊢
  refine lv_aload_n hx hb dL_law_314 rfl (lv_at hl 2 rfl) ?_
  refine lv_aload_n hx hb dL_law_315 rfl (lv_at hl 0 rfl) ?_
  refine lv_iload hx hb dL_law_316 (lv_at hl 4 rfl) ?_
  refine lv_iconst (v := nI 1) hx hb dL_law_318 (by decide) ?_
  refine tn_iadd (a := (5 * q)) (b := 1) hx hb dL_law_319 ?_
  refine tn_sld (i := ((5 * q) + 1)) hx hb hX hbl hbA hS (by omega) (by omega) dL_law_320 ?_
  refine lv_aload_n hx hb dL_law_321 rfl (lv_at hl 0 rfl) ?_
  refine lv_iload hx hb dL_law_322 (lv_at hl 4 rfl) ?_
  refine lv_iconst (v := nI 2) hx hb dL_law_324 (by decide) ?_
  refine tn_iadd (a := (5 * q)) (b := 2) hx hb dL_law_325 ?_
  refine tn_sld (i := ((5 * q) + 2)) hx hb hX hbl hbA hS (by omega) (by omega) dL_law_326 ?_
  have hDc := tn_D_swap hD
  rw [List.append_assoc] at hDc
  have hF := tn_freeA (tn_D_l hDc) hS hA
  refine va_calli (va_runV (As := [.int (xs ((5 * q) + 1)), .int (xs ((5 * q) + 2))]) (rest := [.int r_311]) ⟨hx, hb, hml, hown, hts⟩ (cX1_steps_ok l dC dI k0 b1 b2 b3 b4 b5 b6 cI cL cZ th cnt fp sp mo on rs rw rl le bl bs H.size g ok (xs (5 * q + 1)) (xs (5 * q + 2))) (cwV 2 hts gL_law_X1_steps rfl rfl rfl (by decide +kernel) ⟨Nat.le_of_ble_eq_true rfl, Nat.le_of_ble_eq_true rfl⟩) (tn_preV hK hPm (tn_D_l hDc) (ci := 1) rfl 0 rfl) rfl rfl hl.1 rfl (lv_room (Nat.le_of_ble_eq_true rfl)) dL_law_327 ⟨by show 16 + q + 0 ≤ 1042; omega, by show 1489 + 6 * q + 0 ≤ 9693; omega⟩) hS (fun q _ h => hF q h) hF (fun r_327 u_327 t H1 locs ht hvm hw_327 hB hz1 hk1 hS => ?_)
  obtain ⟨hPm, -, hD1⟩ := hB
  rw [ht] at hPm
  obtain ⟨hR, hD9⟩ := tn_side (va_P.app hPo hPx) hDc hk1 hF hD1
  have hPo := tn_P_l hR
  have hPx := tn_P_r hR
  rw [← List.append_assoc] at hD9
  have hD := tn_D_swap hD9
  refine W.cs (cells' := 16 + q) (slots' := 1489 + 6 * q) (Nat.add_zero _) (Nat.add_zero _) ?_
  clear hDc hF hz1 hk1 hD1 ht hvm
  clear hR
  generalize H1 = H at hPx hPm hPo hS ⊢
  refine lv_icmp_eq (tgt := 518) hx hb dL_law_330 (by decide) (fun c_330 => ?_) (fun c_330 => ?_)
  · skip
    refine W.widen (k := 16 + (q + 1)) (n := 1489 + 6 * (q + 1)) (by omega) (by omega) ?_
    exact K _ _ _ _ _ _ _ _ _ _ _ _ _ _ _ _ _ _ _ _ _ _ _ _ _ _ _ hinv hPx hPm hPo hD hS (lv_sub hl [0, 1, 2, 3, 4] rfl)
  · skip
    exact absurd (tl_steps hw_311 hw_327) c_330
set_option maxHeartbeats 4000000 in
set_option maxRecDepth 100000 in
theorem law_c5 {p : Program} {l : Launch} {e : Env} {s : State} {m : MethodId} {below : List Frame} {meth : Method} {c : Code} {b L : Nat} {xs : Nat → Int32} {dC : Nat → ClassId} {dI : Nat → Nat → Nat} {h a1 a2 a3 a4 a5 a6 a7 k0 b1 b2 b3 b4 b5 b6 ao : Nat} {cI cL cZ : ClassId} (C : tl_C p l s m meth c b L xs dC dI cI cL cZ) {q : Nat} (hq : 5 * q + 5 ≤ L) (K : tl_K p l e s m below meth c b dC dI h a1 a2 a3 a4 a5 a6 a7 k0 b1 b2 b3 b4 b5 b6 ao cI cL cZ q 518 (16 + (q + 1)) (1489 + 6 * (q + 1))) : tl_K p l e s m below meth c b dC dI h a1 a2 a3 a4 a5 a6 a7 k0 b1 b2 b3 b4 b5 b6 ao cI cL cZ q 335 (16 + q) (1489 + 6 * q) := by
  obtain ⟨C0, hK, hfc, hZs, hst, hL⟩ := C
  obtain ⟨hx, hb, hr, hml, hown, hts0, hX, hbl, hlocks, hgv⟩ := C0
  have hts := fun w h => hts0 w (wsL_law_in w h)
  have hown : s.vm.findClass RL = some m.cls := hown
  have hA : ∀ q : Nat, s.heap.size ≤ q → (fun q : Nat => s.heap.size ≤ q) q := fun _ h => h
  have hbA : ¬ (fun q : Nat => s.heap.size ≤ q) b := Nat.not_le.mpr hbl
  intro cnt onc fp sp mo on lf sf rp rs rl th cnt2 fp2 sp2 mo2 on2 rs2 rw rl2 le bl bs ov H locs ls hinv hPx hPm hPo hD hS hl
  obtain ⟨⟨e1, e2, e3, e4, e5, e6, e7⟩, -⟩ := id hinv
  have e1 := e1.symm
  subst e1
  have e2 := e2.symm
  subst e2
  have e3 := e3.symm
  subst e3
  have e4 := e4.symm
  subst e4
  have e5 := e5.symm
  subst e5
  have e6 := e6.symm
  subst e6
  have e7 := e7.symm
  subst e7
  obtain ⟨-, g, ok, hoc, hrs, hrow, hrl⟩ := id hinv
  refine lv_aload_n hx hb dL_law_335 rfl (lv_at hl 1 rfl) ?_
  refine lv_aload_n hx hb dL_law_336 rfl (lv_at hl 0 rfl) ?_
  refine lv_iload hx hb dL_law_337 (lv_at hl 4 rfl) ?_
  refine lv_iconst (v := nI 1) hx hb dL_law_339 (by decide) ?_
  refine tn_iadd (a := (5 * q)) (b := 1) hx hb dL_law_340 ?_
  refine tn_sld (i := ((5 * q) + 1)) hx hb hX hbl hbA hS (by omega) (by omega) dL_law_341 ?_
  refine lv_aload_n hx hb dL_law_342 rfl (lv_at hl 0 rfl) ?_
  refine lv_iload hx hb dL_law_343 (lv_at hl 4 rfl) ?_
  refine lv_iconst (v := nI 2) hx hb dL_law_345 (by decide) ?_
  refine tn_iadd (a := (5 * q)) (b := 2) hx hb dL_law_346 ?_
  refine tn_sld (i := ((5 * q) + 2)) hx hb hX hbl hbA hS (by omega) (by omega) dL_law_347 ?_
  have hDc := hD
  have hF := tn_freeA (tn_D_l hDc) hS hA
  refine va_calli (va_runV (As := [.int (xs ((5 * q) + 1)), .int (xs ((5 * q) + 2))]) (rest := []) ⟨hx, hb, hml, hown, hts⟩ (cX0_path_ok l dC dI h a1 a2 a3 a4 a5 a6 a7 cI cL cZ cnt onc fp sp mo on lf sf rp rs rl H.size g ok (xs (5 * q + 1)) (xs (5 * q + 2))) (cwV 2 hts gL_law_X0_path rfl rfl rfl (by decide +kernel) ⟨Nat.le_of_ble_eq_true rfl, Nat.le_of_ble_eq_true rfl⟩) (tn_preV hK hPx (tn_D_l hDc) (ci := 0) rfl 0 rfl) rfl rfl hl.1 rfl (lv_room (Nat.le_of_ble_eq_true rfl)) dL_law_348 ⟨by show 16 + q + 0 ≤ 1042; omega, by show 1489 + 6 * q + 0 ≤ 9693; omega⟩) hS (fun q _ h => hF q h) hF (fun r_348 u_348 t H1 locs ht hvm hw_348 hB hz1 hk1 hS => ?_)
  obtain ⟨hPx, -, hD1⟩ := hB
  rw [ht] at hPx
  obtain ⟨hR, hD⟩ := tn_side (va_P.app hPm hPo) hDc hk1 hF hD1
  have hPm := tn_P_l hR
  have hPo := tn_P_r hR
  refine W.cs (cells' := 16 + q) (slots' := 1489 + 6 * q) (Nat.add_zero _) (Nat.add_zero _) ?_
  clear hDc hF hz1 hk1 hD1 ht hvm
  clear hR
  generalize H1 = H at hPx hPm hPo hS ⊢
  refine lv_aload_n hx hb dL_law_351 rfl (lv_at hl 2 rfl) ?_
  refine lv_aload_n hx hb dL_law_352 rfl (lv_at hl 0 rfl) ?_
  refine lv_iload hx hb dL_law_353 (lv_at hl 4 rfl) ?_
  refine lv_iconst (v := nI 1) hx hb dL_law_355 (by decide) ?_
  refine tn_iadd (a := (5 * q)) (b := 1) hx hb dL_law_356 ?_
  refine tn_sld (i := ((5 * q) + 1)) hx hb hX hbl hbA hS (by omega) (by omega) dL_law_357 ?_
  refine lv_aload_n hx hb dL_law_358 rfl (lv_at hl 0 rfl) ?_
  refine lv_iload hx hb dL_law_359 (lv_at hl 4 rfl) ?_
  refine lv_iconst (v := nI 2) hx hb dL_law_361 (by decide) ?_
  refine tn_iadd (a := (5 * q)) (b := 2) hx hb dL_law_362 ?_
  refine tn_sld (i := ((5 * q) + 2)) hx hb hX hbl hbA hS (by omega) (by omega) dL_law_363 ?_
  have hDc := tn_D_swap hD
  rw [List.append_assoc] at hDc
  have hF := tn_freeA (tn_D_l hDc) hS hA
  refine va_calli (va_runV (As := [.int (xs ((5 * q) + 1)), .int (xs ((5 * q) + 2))]) (rest := [.int r_348]) ⟨hx, hb, hml, hown, hts⟩ (cX1_path_ok l dC dI k0 b1 b2 b3 b4 b5 b6 cI cL cZ th cnt fp sp mo on rs rw rl le bl bs H.size g ok (xs (5 * q + 1)) (xs (5 * q + 2))) (cwV 2 hts gL_law_X1_path rfl rfl rfl (by decide +kernel) ⟨Nat.le_of_ble_eq_true rfl, Nat.le_of_ble_eq_true rfl⟩) (tn_preV hK hPm (tn_D_l hDc) (ci := 1) rfl 0 rfl) rfl rfl hl.1 rfl (lv_room (Nat.le_of_ble_eq_true rfl)) dL_law_364 ⟨by show 16 + q + 0 ≤ 1042; omega, by show 1489 + 6 * q + 0 ≤ 9693; omega⟩) hS (fun q _ h => hF q h) hF (fun r_364 u_364 t H1 locs ht hvm hw_364 hB hz1 hk1 hS => ?_)
  obtain ⟨hPm, -, hD1⟩ := hB
  rw [ht] at hPm
  obtain ⟨hR, hD9⟩ := tn_side (va_P.app hPo hPx) hDc hk1 hF hD1
  have hPo := tn_P_l hR
  have hPx := tn_P_r hR
  rw [← List.append_assoc] at hD9
  have hD := tn_D_swap hD9
  refine W.cs (cells' := 16 + q) (slots' := 1489 + 6 * q) (Nat.add_zero _) (Nat.add_zero _) ?_
  clear hDc hF hz1 hk1 hD1 ht hvm
  clear hR
  generalize H1 = H at hPx hPm hPo hS ⊢
  refine lv_icmp_eq (tgt := 518) hx hb dL_law_367 (by decide) (fun c_367 => ?_) (fun c_367 => ?_)
  · skip
    refine W.widen (k := 16 + (q + 1)) (n := 1489 + 6 * (q + 1)) (by omega) (by omega) ?_
    exact K _ _ _ _ _ _ _ _ _ _ _ _ _ _ _ _ _ _ _ _ _ _ _ _ _ _ _ (tl_path hinv hw_348 hw_364).2 hPx hPm hPo hD hS (lv_sub hl [0, 1, 2, 3, 4] rfl)
  · skip
    exact absurd (tl_path hinv hw_348 hw_364).1 c_367
