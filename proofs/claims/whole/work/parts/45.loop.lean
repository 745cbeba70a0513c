theorem tl_more {L q : Nat} (hL : L ≤ 2560) (hq : 5 * q ≤ L) (h : ¬ (nI L - nI 5 < nI (5 * q))) : 5 * q + 5 ≤ L := by
  rw [Int32.lt_iff_toInt_lt, pk_sub_toInt (by omega) (by omega), nI_toInt (by omega)] at h
  omega
theorem tl_inc (q : Nat) : nI (5 * q) + Int32.ofInt 5 = nI (5 * (q + 1)) := by
  have : nI (5 * q) + nI 5 = nI (5 * (q + 1)) := by rw [nI_add]; congr 1
  exact this
set_option maxHeartbeats 4000000 in
set_option maxRecDepth 100000 in
/-- THE LAW'S LOOP -/
theorem law_loop {p : Program} {l : Launch} {e : Env} {s : State} {m : MethodId} {below : List Frame} {meth : Method} {c : Code} {b L : Nat} {xs : Nat → Int32} {dC : Nat → ClassId} {dI : Nat → Nat → Nat} {h a1 a2 a3 a4 a5 a6 a7 k0 b1 b2 b3 b4 b5 b6 ao : Nat} {cI cL cZ : ClassId} (C : tl_C p l s m meth c b L xs dC dI cI cL cZ) : ∀ (n q : Nat), 5 * q ≤ L → L < 5 * (q + n) → tl_K p l e s m below meth c b dC dI h a1 a2 a3 a4 a5 a6 a7 k0 b1 b2 b3 b4 b5 b6 ao cI cL cZ q 23 (16 + q) (1489 + 6 * q) := by
  intro n
  induction n with
  | zero => intro q h1 h2; exact absurd h2 (by omega)
  | succ n ih =>
    intro q h1 h2
    have K : 5 * q + 5 ≤ L → tl_K p l e s m below meth c b dC dI h a1 a2 a3 a4 a5 a6 a7 k0 b1 b2 b3 b4 b5 b6 ao cI cL cZ q 518 (16 + (q + 1)) (1489 + 6 * (q + 1)) := by
      intro hq cnt onc fp sp mo on lf sf rp rs rl th cnt2 fp2 sp2 mo2 on2 rs2 rw rl2 le bl bs ov H locs ls hinv hPx hPm hPo hD hS hl
      obtain ⟨⟨hx, hb, -⟩, -⟩ := C
      refine lv_iinc (v := nI (5 * (q + 1))) (lv' := [(4, .int (nI (5 * (q + 1)))), (0, .ref b), (1, .ref h), (2, .ref k0), (3, .ref ao)]) hx hb dL_law_518 hl (k := 4) rfl (tl_inc q) (by decide) rfl (fun ls hl => ?_)
      refine lv_goto (tgt := 23) hx hb dL_law_521 (by decide) ?_
      exact ih (q + 1) hq (by omega) _ _ _ _ _ _ _ _ _ _ _ _ _ _ _ _ _ _ _ _ _ _ _ _ _ _ _ hinv hPx hPm hPo hD hS (lv_sub hl [1, 2, 3, 4, 0] rfl)
    intro cnt onc fp sp mo on lf sf rp rs rl th cnt2 fp2 sp2 mo2 on2 rs2 rw rl2 le bl bs ov H locs ls hinv hPx hPm hPo hD hS hl
    obtain ⟨C0, hK, hfc, hZs, hst, hL⟩ := id C
    obtain ⟨hx, hb, hr, hml, hown, hts0, hX, hbl, hlocks, hgv⟩ := C0
    have hbA : ¬ (fun q : Nat => s.heap.size ≤ q) b := Nat.not_le.mpr hbl
    refine lv_iload hx hb dL_law_23 (lv_at hl 4 rfl) ?_
    refine lv_aload_n hx hb dL_law_25 rfl (lv_at hl 0 rfl) ?_
    refine va_slen hx hb hX hbl hbA hS dL_law_26 ?_
    refine lv_iconst (v := nI 5) hx hb dL_law_27 (by decide) ?_
    refine lv_isub hx hb dL_law_28 ?_
    refine lv_icmp_gt (tgt := 524) hx hb dL_law_29 (by decide) (fun c_29 => ?_) (fun c_29 => ?_)
    · refine lv_iconst (v := 1) hx hb dL_law_524 (by decide) ?_
      refine va_forget (fun q hq => hS.2.2 q hq) ?_
      refine W.widen (k := 1042) (n := 9693) (by omega) (by omega) ?_
      exact lw_ret hx hb hr hlocks dL_law_525
    · have hq : 5 * q + 5 ≤ L := tl_more hL h1 c_29
      have K := K hq
      refine lv_aload_n hx hb dL_law_32 rfl (lv_at hl 0 rfl) ?_
      refine lv_iload hx hb dL_law_33 (lv_at hl 4 rfl) ?_
      refine tn_sld (i := 5 * q) hx hb hX hbl hbA hS (by omega) (by omega) dL_law_35 ?_
      refine lv_bipush (v := nI 15) hx hb dL_law_36 (by decide) ?_
      refine lv_iand hx hb dL_law_38 ?_
      obtain ⟨j, hj, ej⟩ := pk_andE (xs (5 * q)) (m := nI 15) 4 (by decide)
      rw [ej]
      have hj : j < 16 := hj
      clear ej
      rcases (show j = 0 ∨ j = 1 ∨ j = 2 ∨ j = 3 ∨ j = 4 ∨ j = 5 ∨ j = 6 ∨ j = 7 ∨ j = 8 ∨ j = 9 ∨ j = 10 ∨ j = 11 ∨ j = 12 ∨ j = 13 ∨ j = 14 ∨ j = 15 by omega) with rfl | rfl | rfl | rfl | rfl | rfl | rfl | rfl | rfl | rfl | rfl | rfl | rfl | rfl | rfl | rfl
      · refine lv_tableIn (off := 61) (tgt := 100) hx hb dL_law_39 (by decide) (by decide) (by decide) (by decide) ?_
        exact law_c0 C hq K cnt onc fp sp mo on lf sf rp rs rl th cnt2 fp2 sp2 mo2 on2 rs2 rw rl2 le bl bs ov H locs ls hinv hPx hPm hPo hD hS hl
      · refine lv_tableIn (off := 142) (tgt := 181) hx hb dL_law_39 (by decide) (by decide) (by decide) (by decide) ?_
        exact law_c1 C hq K cnt onc fp sp mo on lf sf rp rs rl th cnt2 fp2 sp2 mo2 on2 rs2 rw rl2 le bl bs ov H locs ls hinv hPx hPm hPo hD hS hl
      · refine lv_tableIn (off := 167) (tgt := 206) hx hb dL_law_39 (by decide) (by decide) (by decide) (by decide) ?_
        exact law_c2 C hq K cnt onc fp sp mo on lf sf rp rs rl th cnt2 fp2 sp2 mo2 on2 rs2 rw rl2 le bl bs ov H locs ls hinv hPx hPm hPo hD hS hl
      · refine lv_tableIn (off := 192) (tgt := 231) hx hb dL_law_39 (by decide) (by decide) (by decide) (by decide) ?_
        exact law_c3 C hq K cnt onc fp sp mo on lf sf rp rs rl th cnt2 fp2 sp2 mo2 on2 rs2 rw rl2 le bl bs ov H locs ls hinv hPx hPm hPo hD hS hl
      · refine lv_tableIn (off := 259) (tgt := 298) hx hb dL_law_39 (by decide) (by decide) (by decide) (by decide) ?_
        exact law_c4 C hq K cnt onc fp sp mo on lf sf rp rs rl th cnt2 fp2 sp2 mo2 on2 rs2 rw rl2 le bl bs ov H locs ls hinv hPx hPm hPo hD hS hl
      · refine lv_tableIn (off := 296) (tgt := 335) hx hb dL_law_39 (by decide) (by decide) (by decide) (by decide) ?_
        exact law_c5 C hq K cnt onc fp sp mo on lf sf rp rs rl th cnt2 fp2 sp2 mo2 on2 rs2 rw rl2 le bl bs ov H locs ls hinv hPx hPm hPo hD hS hl
      · refine lv_tableIn (off := 333) (tgt := 372) hx hb dL_law_39 (by decide) (by decide) (by decide) (by decide) ?_
        exact law_c6 C hq K cnt onc fp sp mo on lf sf rp rs rl th cnt2 fp2 sp2 mo2 on2 rs2 rw rl2 le bl bs ov H locs ls hinv hPx hPm hPo hD hS hl
      · refine lv_tableIn (off := 346) (tgt := 385) hx hb dL_law_39 (by decide) (by decide) (by decide) (by decide) ?_
        exact law_c7 C hq K cnt onc fp sp mo on lf sf rp rs rl th cnt2 fp2 sp2 mo2 on2 rs2 rw rl2 le bl bs ov H locs ls hinv hPx hPm hPo hD hS hl
      · refine lv_tableIn (off := 371) (tgt := 410) hx hb dL_law_39 (by decide) (by decide) (by decide) (by decide) ?_
        exact law_c8 C hq K cnt onc fp sp mo on lf sf rp rs rl th cnt2 fp2 sp2 mo2 on2 rs2 rw rl2 le bl bs ov H locs ls hinv hPx hPm hPo hD hS hl
      · refine lv_tableIn (off := 385) (tgt := 424) hx hb dL_law_39 (by decide) (by decide) (by decide) (by decide) ?_
        exact law_c9 C hq K cnt onc fp sp mo on lf sf rp rs rl th cnt2 fp2 sp2 mo2 on2 rs2 rw rl2 le bl bs ov H locs ls hinv hPx hPm hPo hD hS hl
      · refine lv_tableIn (off := 440) (tgt := 479) hx hb dL_law_39 (by decide) (by decide) (by decide) (by decide) ?_
        exact law_c10 C hq K cnt onc fp sp mo on lf sf rp rs rl th cnt2 fp2 sp2 mo2 on2 rs2 rw rl2 le bl bs ov H locs ls hinv hPx hPm hPo hD hS hl
      · refine lv_tableIn (off := 466) (tgt := 505) hx hb dL_law_39 (by decide) (by decide) (by decide) (by decide) ?_
        exact law_c11 C hq K cnt onc fp sp mo on lf sf rp rs rl th cnt2 fp2 sp2 mo2 on2 rs2 rw rl2 le bl bs ov H locs ls hinv hPx hPm hPo hD hS hl
      · refine lv_tableOut (tgt := 518) hx hb dL_law_39 (by decide) (by decide) ?_
        refine W.widen (k := 16 + (q + 1)) (n := 1489 + 6 * (q + 1)) (by omega) (by omega) ?_
        exact K cnt onc fp sp mo on lf sf rp rs rl th cnt2 fp2 sp2 mo2 on2 rs2 rw rl2 le bl bs ov H locs ls hinv hPx hPm hPo hD hS hl
      · refine lv_tableOut (tgt := 518) hx hb dL_law_39 (by decide) (by decide) ?_
        refine W.widen (k := 16 + (q + 1)) (n := 1489 + 6 * (q + 1)) (by omega) (by omega) ?_
        exact K cnt onc fp sp mo on lf sf rp rs rl th cnt2 fp2 sp2 mo2 on2 rs2 rw rl2 le bl bs ov H locs ls hinv hPx hPm hPo hD hS hl
      · refine lv_tableOut (tgt := 518) hx hb dL_law_39 (by decide) (by decide) ?_
        refine W.widen (k := 16 + (q + 1)) (n := 1489 + 6 * (q + 1)) (by omega) (by omega) ?_
        exact K cnt onc fp sp mo on lf sf rp rs rl th cnt2 fp2 sp2 mo2 on2 rs2 rw rl2 le bl bs ov H locs ls hinv hPx hPm hPo hD hS hl
      · refine lv_tableOut (tgt := 518) hx hb dL_law_39 (by decide) (by decide) ?_
        refine W.widen (k := 16 + (q + 1)) (n := 1489 + 6 * (q + 1)) (by omega) (by omega) ?_
        exact K cnt onc fp sp mo on lf sf rp rs rl th cnt2 fp2 sp2 mo2 on2 rs2 rw rl2 le bl bs ov H locs ls hinv hPx hPm hPo hD hS hl
