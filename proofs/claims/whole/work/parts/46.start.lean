theorem tl_fB_in : ∀ w ∈ tn_fB, w ∈ lw_tbl := by decide +kernel
set_option maxHeartbeats 4000000 in
set_option maxRecDepth 100000 in
/-- THE LAW, from its entry -/
theorem whole_start {p : Program} {e : Env} {s : State} {m : MethodId} {below : List Frame} {meth : Method} {c : Code} (l : Launch) (hst : l.stackTraces = false) {b L : Nat} {xs : Nat → Int32} (hL : L ≤ 2560) (C0 : lw_At p s m meth c b L xs) : W p l e room_1 s m #[Value.ref b] below meth c s.heap [] 0 0 (lw_Z below #[Value.ref b] s) (entryFrame m ([Value.ref b] : List Value).toArray 8) := by
  obtain ⟨hx, hb, hr, hml, hown, hts0, hX, hbl, hlocks, hgv⟩ := id C0
  have hts := fun w h => hts0 w (wsL_law_in w h)
  have hown : s.vm.findClass RL = some m.cls := hown
  have hA : ∀ q : Nat, s.heap.size ≤ q → (fun q : Nat => s.heap.size ≤ q) q := fun _ h => h
  have hbA : ¬ (fun q : Nat => s.heap.size ≤ q) b := Nat.not_le.mpr hbl
  obtain ⟨c0, iS0, hKn0⟩ := u_known (C := RX0) (T := TX0) (N := 11) (n := 11) hts inlX0 (hts (.instantiable RX0 11) (by decide +kernel))
  obtain ⟨c1, iS1, hKn1⟩ := u_known (C := RX1) (T := TX1) (N := 12) (n := 12) hts inlX1 (hts (.instantiable RX1 12) (by decide +kernel))
  obtain ⟨dC, dI, hKc⟩ : ∃ (dC : Nat → ClassId) (dI : Nat → Nat → Nat), ∀ (k : Nat) (q : vw_C), vwCl[k]? = some q → u_Kn s q.1 q.2.1 q.2.2 (dC k) (dI k) := by
    refine ⟨fun k => if k = 0 then c0 else c1, fun k => if k = 0 then iS0 else iS1, ?_⟩
    intro k q hq
    match k, hq with
    | 0, hq => cases hq; exact hKn0
    | 1, hq => cases hq; exact hKn1
    | k + 2, hq => simp [vwCl] at hq
  have hS : va_S (fun q : Nat => s.heap.size ≤ q) s.heap s.heap [] := va_S.rf
  have hK : va_K (dC, dI) vwCl [] s := ⟨hKc, fun k q h => by simp at h⟩
  have hP : va_P (dC, dI) vwCl [] s.heap := fun k q h => by simp at h
  have hD : va_D (fun q : Nat => s.heap.size ≤ q) [] := ⟨fun i j p q h => by simp at h, fun k q h => by simp at h⟩
  have hs := flat_of_before _ hgv
  have hfc : tn_face s := fun w hw => va_Nw.of (tn_fB_ok w hw).2 (hts0 w (tl_fB_in w hw))
  have hZs : tn_Zs (fun q : Nat => s.heap.size ≤ q) s s.heap := ⟨vx_Zqof (args := #[Value.ref b]) (hts0 (.laysStatic Bundle.tN "UNASSIGNED_STACK" Bundle.steD) (by decide +kernel)) (hts0 (.initialized Bundle.tN) (by decide +kernel)) (hs _ (by decide +kernel)) (fun a ha => Nat.not_le.mpr ha), vx_Zqof (args := #[Value.ref b]) (hts0 (.laysStatic Bundle.tN "SUPPRESSED_SENTINEL" Bundle.listD) (by decide +kernel)) (hts0 (.initialized Bundle.tN) (by decide +kernel)) (hs _ (by decide +kernel)) (fun a ha => Nat.not_le.mpr ha)⟩
  have hl := lv_entry ([.ref b]) (n := 8) (Nat.le_of_ble_eq_true rfl)
  rw [lg_entry_eq]
  generalize (lg_sl ([.ref b]) ++ List.replicate (8 - (lg_sl ([.ref b])).length) Slot.unset).toArray = ls at hl ⊢
  have hl : lv_has ls 8 [(0, .ref b)] := hl
  refine va_new (ci := 0) (fs := [.null, .null, .null, .null, .int 0, .int 0, .null, .null, .null, .int 0, .long 0]) (C := RX0) (T := TX0) (N := 11) hx hb hts inlX0 tyX0 tyX0_ok hown (hts (.classLink RL 8 RX0) (by decide +kernel)) (hts (.instantiable RX0 11) (by decide +kernel)) (hts (.initialized RX0) (by decide +kernel)) hK hP hD hS hA rfl (fun j hj => by rcases (show j = 0 ∨ j = 1 ∨ j = 2 ∨ j = 3 ∨ j = 4 ∨ j = 5 ∨ j = 6 ∨ j = 7 ∨ j = 8 ∨ j = 9 ∨ j = 10 by omega) with rfl | rfl | rfl | rfl | rfl | rfl | rfl | rfl | rfl | rfl | rfl <;> rfl) (by show _ ≤ 1042; omega) (by show _ ≤ 9693; omega) dL_law_0 (fun h H hP hD hS => ?_)
  have hP : va_P (dC, dI) vwCl [(h, .inr (0, [.null, .null, .null, .null, .int 0, .int 0, .null, .null, .null, .int 0, .long 0]))] H := hP
  have hD : va_D (fun q : Nat => s.heap.size ≤ q) [(h, .inr (0, [.null, .null, .null, .null, .int 0, .int 0, .null, .null, .null, .int 0, .long 0]))] := hD
  refine W.cs (cells' := 1) (slots' := 11) rfl rfl ?_
  refine lv_dup hx hb dL_law_3 rfl ?_
  have hF := tn_freeA hD hS hA
  refine va_callv (va_runI (As := []) (rest := [.ref h]) ⟨hx, hb, hml, hown, hts⟩ (cX0_init_ok l dC dI h H.size) (cwI 0 hts gL_law_X0_init rfl rfl rfl (hts (.initialized RX0) (by decide +kernel)) (hts (.methodLink RL 19 yX0_init) (by decide +kernel)) (hts (.instanceMethod yX0_init) (by decide +kernel)) rfl (by decide +kernel) ⟨Nat.le_of_ble_eq_true rfl, Nat.le_of_ble_eq_true rfl⟩) (tn_preS hK hP hD) rfl rfl hl.1 rfl (lv_room (Nat.le_of_ble_eq_true rfl)) dL_law_4 ⟨by show 1 + 7 ≤ 1042; omega, by show 11 + 541 ≤ 9693; omega⟩) hS (fun q _ h => hF q h) hF (fun u t H1 locs ht hvm hw hB hz1 hk1 hS => ?_)
  obtain ⟨a1, a2, a3, a4, a5, a6, a7, cI, cL, cZ, hPx, hK1, hD1⟩ := hB
  rw [ht] at hPx
  have hK1 := va_K.moved hvm.symm hK1
  have hD := hD1.weaken (fun _ q _ hq => hF q.1 hq)
  clear hP hk1 hF hz1 ht hvm hD1 hw
  generalize H1 = H at hPx hS ⊢
  refine W.cs (cells' := 8) (slots' := 552) rfl rfl ?_
  refine lv_astore_n (lv' := [(1, .ref h), (0, .ref b)]) hx hb dL_law_7 rfl hl (by decide) rfl (fun ls hl => ?_)
  have hP := hPx
  refine va_new (ci := 1) (fs := [.int 0, .int 0, .null, .null, .null, .null, .int 0, .null, .long 0, .null, .long 0, .int 0]) (C := RX1) (T := TX1) (N := 12) hx hb hts inlX1 tyX1 tyX1_ok hown (hts (.classLink RL 20 RX1) (by decide +kernel)) (hts (.instantiable RX1 12) (by decide +kernel)) (hts (.initialized RX1) (by decide +kernel)) hK hP hD hS hA rfl (fun j hj => by rcases (show j = 0 ∨ j = 1 ∨ j = 2 ∨ j = 3 ∨ j = 4 ∨ j = 5 ∨ j = 6 ∨ j = 7 ∨ j = 8 ∨ j = 9 ∨ j = 10 ∨ j = 11 by omega) with rfl | rfl | rfl | rfl | rfl | rfl | rfl | rfl | rfl | rfl | rfl | rfl <;> rfl) (by show _ ≤ 1042; omega) (by show _ ≤ 9693; omega) dL_law_8 (fun k0 H hP hD hS => ?_)
  refine W.cs (cells' := 9) (slots' := 564) rfl rfl ?_
  refine lv_dup hx hb dL_law_11 rfl ?_
  have hPx := tn_P_l hP
  have hPm : va_P (dC, dI) vwCl [(k0, .inr (1, [.int 0, .int 0, .null, .null, .null, .null, .int 0, .null, .long 0, .null, .long 0, .int 0]))] H := tn_P_r hP
  have hDc : va_D (fun q : Nat => s.heap.size ≤ q) ([(k0, .inr (1, [.int 0, .int 0, .null, .null, .null, .null, .int 0, .null, .long 0, .null, .long 0, .int 0]))] ++ (tn_ws h a1 a2 a3 a4 a5 a6 a7 cI cL cZ 0 0 (fun _ => 0) (fun _ => 0) (fun _ => 0) (fun _ => false) (fun _ => 0) (fun _ => 0) (fun _ => 0) 0 0)) := tn_D_swap hD
  have hF := tn_freeA (tn_D_l hDc) hS hA
  refine va_callv (va_runI (As := []) (rest := [.ref k0]) ⟨hx, hb, hml, hown, hts⟩ (cX1_init_ok l dC dI k0 H.size) (cwI 0 hts gL_law_X1_init rfl rfl rfl (hts (.initialized RX1) (by decide +kernel)) (hts (.methodLink RL 22 yX1_init) (by decide +kernel)) (hts (.instanceMethod yX1_init) (by decide +kernel)) rfl (by decide +kernel) ⟨Nat.le_of_ble_eq_true rfl, Nat.le_of_ble_eq_true rfl⟩) (tn_preS (tys := []) (hK.sub [] rfl) hPm (tn_D_l hDc)) rfl rfl hl.1 rfl (lv_room (Nat.le_of_ble_eq_true rfl)) dL_law_12 ⟨by show 9 + 6 ≤ 1042; omega, by show 564 + 924 ≤ 9693; omega⟩) hS (fun q _ h => hF q h) hF (fun u t H1 locs ht hvm hw hB hz1 hk1 hS => ?_)
  obtain ⟨b1, b2, b3, b4, b5, b6, cI2, cL2, cZ2, hPm, hK2, hD1⟩ := hB
  rw [ht] at hPm
  have hK2 := va_K.moved hvm.symm hK2
  obtain ⟨hPx, hD9⟩ := tn_side hPx hDc hk1 hF hD1
  have hK3 := hK1.app hK2
  have e1 := (tn_sameI hK3 (i := 0) (j := 3) rfl rfl).symm
  subst e1
  have e1 := (tn_sameJ hK3 (i := 1) (j := 4) rfl rfl).symm
  subst e1
  have e1 := (tn_sameZ hK3 (i := 2) (j := 5) rfl rfl).symm
  subst e1
  have hD : va_D (fun q : Nat => s.heap.size ≤ q) ((tn_ws h a1 a2 a3 a4 a5 a6 a7 cI cL cZ 0 0 (fun _ => 0) (fun _ => 0) (fun _ => 0) (fun _ => false) (fun _ => 0) (fun _ => 0) (fun _ => 0) 0 0) ++ (tm_ws k0 b1 b2 b3 b4 b5 b6 cI cL cZ 0 0 (fun _ => 0) (fun _ => 0) (fun _ => 0) (fun _ => false) 0 (fun _ => 0) 0 (fun _ => 0) 0 0)) := tn_D_swap hD9
  clear hP hk1 hF hz1 ht hvm hD1 hw hDc hD9
  generalize H1 = H at hPx hPm hS ⊢
  refine W.cs (cells' := 15) (slots' := 1488) rfl rfl ?_
  refine lv_astore_n (lv' := [(2, .ref k0), (1, .ref h), (0, .ref b)]) hx hb dL_law_15 rfl hl (by decide) rfl (fun ls hl => ?_)
  refine lv_iconst (v := nI 1) hx hb dL_law_16 (by decide) ?_
  refine va_newa (atype := .long) (n := nI 1) (N' := 1) (ty := .long) (a0 := (1, .inr (.inl (fun _ => 0)))) hx hb (hts (.arrayClass .long) (by decide +kernel)) rfl hK1 (va_P.app hPx hPm) hD hS hA (fun cA => tn_c0l cA _) (nI_pos (by omega)) (nI_clamp (by omega)) (show 1 * 8 ≤ 536870912 by omega) (by show 15 + 1 ≤ 1042; omega) (by show 1488 + 1 ≤ 9693; omega) dL_law_17 (fun ao c9 H hK9 hP hD hS => ?_)
  have e1 := (tn_sameJ hK9 (i := 1) (j := 3) rfl rfl).symm
  subst e1
  have hPx := tn_P_l (tn_P_l hP)
  have hPm := tn_P_r (tn_P_l hP)
  have hPo := tn_P_r hP
  rw [List.append_assoc] at hD
  refine lv_astore_n (lv' := [(3, .ref ao), (2, .ref k0), (1, .ref h), (0, .ref b)]) hx hb dL_law_19 rfl hl (by decide) rfl (fun ls hl => ?_)
  refine lv_iconst (v := nI 0) hx hb dL_law_20 (by decide) ?_
  refine lv_istore (lv' := [(4, .int (nI 0)), (3, .ref ao), (2, .ref k0), (1, .ref h), (0, .ref b)]) hx hb dL_law_21 hl (by decide) rfl (fun ls hl => ?_)
  refine W.cs (cells' := 16 + 0) (slots' := 1489 + 6 * 0) rfl rfl ?_
  exact law_loop ⟨C0, hK1, hfc, hZs, hst, hL⟩ (L + 1) 0 (Nat.zero_le _) (by omega) _ _ _ _ _ _ _ _ _ _ _ _ _ _ _ _ _ _ _ _ _ _ _ _ _ _ _ tl_inv_0 hPx hPm hPo hD hS (lv_sub hl [4, 3, 2, 1, 0] rfl)
