theorem tm_rw_0 {E : Nat → Nat → Int → Prop} {t : Nat} {le : Nat → Int64} (h : ∀ w, w < 20 → le w = if w = t then 0 else tn_MX) : tm_rw E t 0 le := by
  intro v hv
  have e := h v hv
  rw [show 20 * 0 + v = v by omega]
  by_cases hvt : v = t
  · rw [if_pos hvt] at e
    rw [e]
    refine Or.inr ⟨by decide, ⟨hvt, by decide⟩, ?_⟩
    rintro L ⟨-, rfl⟩
    decide
  · rw [if_neg hvt] at e
    refine Or.inl ⟨e, ?_⟩
    rintro L ⟨q, -⟩
    exact hvt q
theorem tm_keepU {E : Nat → Nat → Int → Prop} {t s' sv x : Nat} {le : Nat → Int64} {y : Int64} (h : tm_rw E t s' le) (hs : s' ≤ sv) (hx : 20 * (sv + 1) ≤ x) : tm_rw E t s' (vp_updL le x y) := tm_rw_keep h (fun v hv => pk_uLn (by omega))
theorem tm_fin0 {A B : Prop} {bs : Int32} {P : Nat → Prop} (h : (bs = -1 ∧ A) ∨ (∃ n, n ≤ 19 ∧ bs = nI n ∧ P n)) (hb : bs < 0) : bs = -1 ∧ A := by
  rcases h with h | ⟨n, hn, e, -⟩
  · exact h
  · exact absurd (e ▸ hb) (nI_pos (by omega))
theorem tm_fin1 {A : Prop} {bs : Int32} {P : Nat → Prop} (h : (bs = -1 ∧ A) ∨ (∃ n, n ≤ 19 ∧ bs = nI n ∧ P n)) (hb : ¬ bs < 0) : ∃ n, n ≤ 19 ∧ bs = nI n ∧ P n := by
  rcases h with ⟨e, -⟩ | h
  · exact absurd (by rw [e]; decide) hb
  · exact h
theorem tm_bp_s {E : Nat → Nat → Int → Prop} {t m i a u v : Nat} {f : Nat → Nat} (h : tn_bp E t m i f a) (he : f (a + m) = v) (hn : tn_nxl E t v u) : tn_bp E t (m + 1) i (va_up f (a + 1 + m) u) a := by
  have e : ∀ s, s ≤ m → va_up f (a + 1 + m) u (a + s) = f (a + s) := fun s hs => by simp [va_up, show ¬ a + s = a + 1 + m by omega]
  have e2 : va_up f (a + 1 + m) u (a + m + 1) = u := by simp [va_up, show a + m + 1 = a + 1 + m by omega]
  refine ⟨(e 0 (by omega)).trans h.1, fun s hs => ?_⟩
  rcases Nat.lt_or_ge s m with q | q
  · rw [e s (by omega), show a + s + 1 = a + (s + 1) by omega, e (s + 1) (by omega)]
    exact h.2 s q
  · have : s = m := by omega
    subst this
    rw [e s (by omega), e2, he]; exact hn
theorem tm_least {E : Nat → Nat → Int → Prop} {t v s : Nat} {L : Int} (hE : ∀ i j c, E i j c → i < 20 ∧ j < 20) (hb : tn_best E v t L (s + 1)) : ∃ q, q < 20 ∧ tn_nxl E t v q := by
  obtain ⟨q, hq, hl⟩ := pk_least (fun q => tn_nx E t v q) (tn_nx_ex hb)
  have hq20 : q < 20 := by
    obtain ⟨c, L, n, he, -⟩ := id hq
    exact (hE _ _ _ he).2
  refine ⟨q, hq20, hq, fun q' hq' => ?_⟩
  rcases Nat.lt_or_ge q' q with h | h
  · exact absurd hq' (hl q' h)
  · exact h
theorem tm_nMX {x : Int64} {r : Int64} (hx : x.toInt ≤ 1000000000000) (h : r ≤ x) : r ≠ tn_MX ∧ r.toInt ≤ x.toInt := by
  have := Int64.le_iff_toInt_le.mp h
  exact ⟨tn_neMX (by omega), this⟩
theorem tm_ref_no {E : Nat → Nat → Int → Prop} {i j : Nat} {le : Nat → Int64} {bl : Int64} {bs r : Int32} {c : Int64} (hE : ∀ i j c, E i j c → -1000000000000 ≤ c ∧ c ≤ 1000000000000) (h1 : -1000000000000 ≤ c.toInt) (h2 : c.toInt ≤ 1000000000000) (h : tm_bok E j i le bl bs r) (hc : r = nI 0 ∨ (r = nI 1 ∧ ¬ c + bl < 0)) : ∀ n L, tn_wk E n j i L → 0 ≤ L + c.toInt := by
  intro n L w
  rcases h.2 with ⟨-, -, -, q⟩ | ⟨e, m, hm, -, -, -, hb⟩
  · exact absurd w (q n L)
  · rcases hc with hc | ⟨-, hc⟩
    · exact absurd (e.symm.trans hc) (by decide)
    · have hc := tn_nnegI hc
      have bd := tn_wk_bd hE m hb.1
      rw [tn_addI (by omega) (by omega) (by omega) (by omega)] at hc
      have := hb.2 _ _ w
      unfold tn_le at this; omega
theorem tm_ref_yes {E : Nat → Nat → Int → Prop} {i j n0 : Nat} {bl : Int64} {c : Int64} (hE : ∀ i j c, E i j c → -1000000000000 ≤ c ∧ c ≤ 1000000000000) (h1 : -1000000000000 ≤ c.toInt) (h2 : c.toInt ≤ 1000000000000) (hn0 : n0 ≤ 19) (hb : tn_best E j i bl.toInt n0) (hc : c + bl < 0) (rp : Nat → Nat) (rs : Nat) (rl : Int64) {f : Nat → Nat} {z : Nat} (hf : tn_bp E i n0 j f 1) (hz : z = 1 + 1 + n0) (h0 : f 0 = i) : sp_ref E i j c.toInt (nI 1) rp rs rl f z (c + bl) := by
  have bd := tn_wk_bd hE n0 hb.1
  have e := tn_addI (a := c) (b := bl) (by omega) (by omega) (by omega) (by omega)
  have hn := tn_negI hc
  rw [e] at hn
  exact Or.inl ⟨_, n0, hb, by omega, hn0, rfl, by omega, h0, hf, by rw [e]; omega⟩
