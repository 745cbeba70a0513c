/-! WHAT EACH CALL ANSWERS, in the words of walks: for the class and for the reference alike -/
/-- q begins a best walk from p to t, behind the first edge -/
def tn_nx (E : Nat → Nat → Int → Prop) (t p q : Nat) : Prop := ∃ (c L : Int) (n : Nat), E p q c ∧ tn_best E p t (c + L) (n + 1) ∧ tn_best E q t L n
def tn_nxl (E : Nat → Nat → Int → Prop) (t p q : Nat) : Prop := tn_nx E t p q ∧ ∀ q', tn_nx E t p q' → q ≤ q'
/-- the row f holds from place a on the n + 1 points of the best walk from p to t -/
def tn_bp (E : Nat → Nat → Int → Prop) (t n p : Nat) (f : Nat → Nat) (a : Nat) : Prop := f a = p ∧ ∀ s, s < n → tn_nxl E t (f (a + s)) (f (a + s + 1))
theorem tn_nxl_eq {E : Nat → Nat → Int → Prop} {t p q r : Nat} (h : tn_nxl E t p q) (g : tn_nxl E t p r) : q = r := Nat.le_antisymm (h.2 r g.1) (g.2 q h.1)
theorem tn_bp_eq {E : Nat → Nat → Int → Prop} {t n p a : Nat} {f g : Nat → Nat} (h : tn_bp E t n p f a) (k : tn_bp E t n p g a) : ∀ s, s ≤ n → f (a + s) = g (a + s) := by
  intro s
  induction s with
  | zero => intro _; exact h.1.trans k.1.symm
  | succ s ih =>
    intro hs
    have e := ih (by omega)
    have h1 := h.2 s (by omega)
    have k1 := k.2 s (by omega)
    rw [← e] at k1
    exact tn_nxl_eq h1 k1
theorem tn_best_sub {E : Nat → Nat → Int → Prop} {p t n : Nat} {L : Int} (h : tn_best E p t L (n + 1)) : ∃ (q : Nat) (c : Int), E p q c ∧ tn_best E q t (L - c) n := by
  obtain ⟨⟨q, c, he, w⟩, hm⟩ := h
  refine ⟨q, c, he, w, fun m M w2 => ?_⟩
  have := hm _ _ (tn_wk_cons he w2)
  unfold tn_le at this ⊢; omega
theorem tn_nx_ex {E : Nat → Nat → Int → Prop} {p t n : Nat} {L : Int} (h : tn_best E p t L (n + 1)) : ∃ q, tn_nx E t p q := by
  obtain ⟨q, c, he, hb⟩ := tn_best_sub h
  exact ⟨q, c, L - c, n, he, by rw [show c + (L - c) = L by omega]; exact h, hb⟩
theorem tn_best_0 {E : Nat → Nat → Int → Prop} {p t : Nat} {L : Int} (h : tn_best E p t L 0) : p = t ∧ L = 0 := h.1
/-- a best walk's points, one behind another -/
def tn_it (nx : Nat → Nat) : Nat → Nat → Nat
  | 0, p => p
  | s + 1, p => tn_it nx s (nx p)
theorem tn_it_s (nx : Nat → Nat) : ∀ (s p : Nat), tn_it nx (s + 1) p = nx (tn_it nx s p) := by
  intro s
  induction s with
  | zero => intro p; rfl
  | succ s ih => intro p; rw [tn_it, ih]; rfl
theorem tn_put_lo (nx : Nat → Nat) : ∀ (n a p : Nat) (rp : Nat → Nat) (j : Nat), j < a → tn_put nx a n p rp j = rp j := by
  intro n
  induction n with
  | zero => intro a p rp j _; rfl
  | succ n ih =>
    intro a p rp j hj
    rw [tn_put, ih _ _ _ _ (by omega)]
    simp [va_up, show ¬ j = a by omega]
theorem tn_put_hi (nx : Nat → Nat) : ∀ (n a p : Nat) (rp : Nat → Nat) (s : Nat), s < n → tn_put nx a n p rp (a + s) = tn_it nx (s + 1) p := by
  intro n
  induction n with
  | zero => intro a p rp s hs; exact absurd hs (by omega)
  | succ n ih =>
    intro a p rp s hs
    rw [tn_put]
    cases s with
    | zero =>
      rw [tn_put_lo _ _ _ _ _ _ (by omega)]
      simp [va_up, tn_it]
    | succ s =>
      rw [show a + (s + 1) = a + 1 + s by omega, ih _ _ _ _ (by omega)]
      rfl
/-- if nx gives the least next point of what is on a best walk to t, the points put are the best walk's -/
theorem tn_put_bp {E : Nat → Nat → Int → Prop} {t : Nat} {nx : Nat → Nat} (hnx : ∀ p L n, tn_best E p t L (n + 1) → tn_nxl E t p (nx p)) {n p a : Nat} {L : Int} (h : tn_best E p t L n) (rp : Nat → Nat) (ha : rp a = p) : tn_bp E t n p (tn_put nx (a + 1) n p rp) a := by
  have hb : ∀ s, s ≤ n → ∃ M, tn_best E (tn_it nx s p) t M (n - s) := by
    intro s
    induction s with
    | zero => intro _; exact ⟨L, h⟩
    | succ s ih =>
      intro hs
      obtain ⟨M, hM⟩ := ih (by omega)
      rw [show n - s = (n - (s + 1)) + 1 by omega] at hM
      obtain ⟨⟨c, L2, k, he, h1, h2⟩, -⟩ := hnx _ _ _ hM
      rw [tn_it_s]
      have := (tn_best_eq h1 hM).2
      exact ⟨L2, by rw [show n - (s + 1) = k by omega]; exact h2⟩
  have hat : ∀ s, s ≤ n → tn_put nx (a + 1) n p rp (a + s) = tn_it nx s p := by
    intro s hs
    cases s with
    | zero => rw [Nat.add_zero, tn_put_lo _ _ _ _ _ _ (by omega)]; exact ha
    | succ s => rw [show a + (s + 1) = a + 1 + s by omega, tn_put_hi _ _ _ _ _ _ (by omega)]
  refine ⟨by have := hat 0 (by omega); exact this, fun s hs => ?_⟩
  rw [show a + s + 1 = a + (s + 1) by omega, hat s (by omega), hat (s + 1) (by omega), tn_it_s]
  obtain ⟨M, hM⟩ := hb s (by omega)
  rw [show n - s = (n - (s + 1)) + 1 by omega] at hM
  exact hnx _ _ _ hM
/-- what the class's measuring says of a point, in one piece -/
def tn_mok (E : Nat → Nat → Int → Prop) (t : Nat) (d : tn_D) : Prop := ∀ p, p < 20 → (d.1 p = tn_MX ∧ ∀ n L, ¬ tn_wk E n p t L) ∨ (d.1 p ≠ tn_MX ∧ ∃ n, n ≤ 19 ∧ d.2 p = nI n ∧ tn_best E p t (d.1 p).toInt n)
theorem tn_mok_best {E : Nat → Nat → Int → Prop} {t : Nat} {d : tn_D} (h : tn_mok E t d) {p n : Nat} {L : Int} (hp : p < 20) (hb : tn_best E p t L n) : d.1 p ≠ tn_MX ∧ (d.1 p).toInt = L ∧ d.2 p = nI n ∧ n ≤ 19 := by
  rcases h p hp with ⟨-, q⟩ | ⟨q, m, hm, e, hb2⟩
  · exact absurd hb.1 (q _ _)
  · obtain ⟨e1, e2⟩ := tn_best_eq hb2 hb
    exact ⟨q, e1, by rw [e, e2], by omega⟩
/-- the class's next point is the least -/
theorem tn_nxt_ok {cnt : Nat} {fp sp : Nat → Nat} {mo : Nat → Int64} {on : Nat → Bool} {t : Nat} {d : tn_D} (g : tn_good cnt fp sp mo) (h : tn_mok (tn_E cnt fp sp mo on) t d) {p n : Nat} {L : Int} (hb : tn_best (tn_E cnt fp sp mo on) p t L (n + 1)) : tn_nxl (tn_E cnt fp sp mo on) t p (tn_nxt fp sp mo on d p cnt) := by
  have hp : p < 20 := by
    obtain ⟨q, c, he, -⟩ := tn_best_sub hb
    exact (tn_E_in g _ _ _ he).1
  have hmp := tn_mok_best h hp hb
  have hcond : ∀ k, k < cnt → fp k = p → on k = true → ((d.1 (sp k) ≠ tn_MX ∧ mo k + d.1 (sp k) = d.1 (fp k) ∧ d.2 (sp k) + 1 = d.2 (fp k)) ↔ ∃ (L2 : Int) (m : Nat), (mo k).toInt + L2 = L ∧ m + 1 = n + 1 ∧ tn_best (tn_E cnt fp sp mo on) (sp k) t L2 m) := by
    intro k hk hfk hon
    have hg := g.2 k hk
    constructor
    · rintro ⟨h1, h2, h3⟩
      rcases h (sp k) hg.2.1 with ⟨q, -⟩ | ⟨-, m, hm, e, hb2⟩
      · exact absurd q h1
      · have bd := tn_wk_bd (tn_E_bd g) m hb2.1
        rw [e, hfk, hmp.2.2.1, nI_1, nI_eq (by omega) (by omega)] at h3
        refine ⟨_, m, ?_, h3, hb2⟩
        rw [← hmp.2.1, ← hfk, ← h2]
        exact (tn_addI (by omega) (by omega) (by omega) (by omega)).symm
    · rintro ⟨L2, m, h1, h2, hb2⟩
      obtain ⟨k1, k2, k3, k4⟩ := tn_mok_best h hg.2.1 hb2
      have bd := tn_wk_bd (tn_E_bd g) m hb2.1
      refine ⟨k1, ?_, ?_⟩
      · apply Int64.toInt_inj.mp
        rw [tn_addI (by omega) (by omega) (by omega) (by omega), k2, hfk, hmp.2.1]; exact h1
      · rw [k3, hfk, hmp.2.2.1, nI_1, h2]
  -- the least over the constraints as far as k
  have key : ∀ k, k ≤ cnt → (∀ q, q < tn_nxt fp sp mo on d p k → ¬ ∃ j, j < k ∧ fp j = p ∧ sp j = q ∧ on j = true ∧ (d.1 (sp j) ≠ tn_MX ∧ mo j + d.1 (sp j) = d.1 (fp j) ∧ d.2 (sp j) + 1 = d.2 (fp j))) ∧
      (tn_nxt fp sp mo on d p k < 20 → ∃ j, j < k ∧ fp j = p ∧ sp j = tn_nxt fp sp mo on d p k ∧ on j = true ∧ (d.1 (sp j) ≠ tn_MX ∧ mo j + d.1 (sp j) = d.1 (fp j) ∧ d.2 (sp j) + 1 = d.2 (fp j))) := by
    intro k
    induction k with
    | zero => intro _; exact ⟨fun q _ ⟨j, hj, _⟩ => absurd hj (by omega), fun q => absurd q (by show ¬ (20 < 20); omega)⟩
    | succ k ih =>
      intro hk
      obtain ⟨i1, i2⟩ := ih (by omega)
      rw [tn_nxt]
      split
      · next hc =>
        obtain ⟨c1, c2, c3, c4⟩ := hc
        refine ⟨fun q hq ⟨j, hj, j1, j2, j3, j4⟩ => ?_, fun _ => ⟨k, by omega, c1, rfl, c3, c4⟩⟩
        rcases Nat.lt_or_ge j k with hjk | hjk
        · exact i1 q (by omega) ⟨j, hjk, j1, j2, j3, j4⟩
        · have : j = k := by omega
          subst this; omega
      · next hc =>
        refine ⟨fun q hq ⟨j, hj, j1, j2, j3, j4⟩ => ?_, fun hq => ?_⟩
        · rcases Nat.lt_or_ge j k with hjk | hjk
          · exact i1 q hq ⟨j, hjk, j1, j2, j3, j4⟩
          · have : j = k := by omega
            subst this
            exact hc ⟨j1, by omega, j3, j4⟩
        · obtain ⟨j, hj, j1, j2, j3, j4⟩ := i2 hq
          exact ⟨j, by omega, j1, j2, j3, j4⟩
  obtain ⟨k1, k2⟩ := key cnt (Nat.le_refl _)
  have hnx : ∀ q, tn_nx (tn_E cnt fp sp mo on) t p q → q < 20 ∧ ∃ j, j < cnt ∧ fp j = p ∧ sp j = q ∧ on j = true ∧ (d.1 (sp j) ≠ tn_MX ∧ mo j + d.1 (sp j) = d.1 (fp j) ∧ d.2 (sp j) + 1 = d.2 (fp j)) := by
    rintro q ⟨c, L2, m, ⟨j, hj, j1, j2, j3, j4⟩, hb1, hb2⟩
    obtain ⟨e1, e2⟩ := tn_best_eq hb1 hb
    subst j3
    exact ⟨(g.2 j hj).2.1, j, hj, j2, rfl, j1, (hcond j hj j2 j1).mpr ⟨L2, m, by rw [j4]; exact e1, e2, hb2⟩⟩
  obtain ⟨q0, hq0⟩ := tn_nx_ex hb
  obtain ⟨l0, j0⟩ := hnx q0 hq0
  have hlt : tn_nxt fp sp mo on d p cnt < 20 := by
    rcases Nat.lt_or_ge (tn_nxt fp sp mo on d p cnt) 20 with q | q
    · exact q
    · obtain ⟨j, a1, a2, a3, a4, a5⟩ := j0
      exact absurd ⟨j, a1, a2, a3, a4, a5⟩ (k1 q0 (by omega))
  obtain ⟨j, a1, a2, a3, a4, a5⟩ := k2 hlt
  refine ⟨?_, fun q' hq' => ?_⟩
  · obtain ⟨L2, m, b1, b2, b3⟩ := (hcond j a1 a2 a4).mp a5
    rw [← a3]
    refine ⟨(mo j).toInt, L2, m, ⟨j, a1, a4, a2, rfl, rfl⟩, ?_, b3⟩
    rw [b1, b2]; exact hb
  · rcases Nat.lt_or_ge q' (tn_nxt fp sp mo on d p cnt) with hl | hl
    · exact absurd (hnx q' hq').2 (k1 q' hl)
    · exact hl
/-- how many are on -/
def tn_cn (on : Nat → Bool) : Nat → Nat
  | 0 => 0
  | k + 1 => tn_cn on k + (if on k = true then 1 else 0)
def sp_steps (E : Nat → Nat → Int → Prop) (x y r : Int32) : Prop := (∃ (a b : Nat) (L : Int) (n : Nat), a < 20 ∧ b < 20 ∧ x = nI a ∧ y = nI b ∧ tn_best E a b L n ∧ r = nI n) ∨ ((∀ a b, a < 20 → b < 20 → x = nI a → y = nI b → ∀ n L, ¬ tn_wk E n a b L) ∧ r = -1)
def sp_bound (E : Nat → Nat → Int → Prop) (a b : Nat) (r : Int64) : Prop := (∃ (L : Int) (n : Nat), tn_best E a b L n ∧ r.toInt = L) ∨ ((∀ n L, ¬ tn_wk E n a b L) ∧ r = tn_MX)
def sp_earl (E : Nat → Nat → Int → Prop) (a : Nat) (r : Int64) : Prop := (∃ (L : Int) (n : Nat), tn_best E a 0 L n ∧ r.toInt = -L) ∨ ((∀ n L, ¬ tn_wk E n a 0 L) ∧ r = -9223372036854775808)
def sp_path (E : Nat → Nat → Int → Prop) (x y r : Int32) (rp : Nat → Nat) (rs : Nat) (rl : Int64) (rp' : Nat → Nat) (rs' : Nat) (rl' : Int64) : Prop :=
  (∃ (a b : Nat) (L : Int) (n : Nat), a < 20 ∧ b < 20 ∧ x = nI a ∧ y = nI b ∧ tn_best E a b L n ∧ n ≤ 19 ∧ r = nI (n + 1) ∧ rs' = n + 1 ∧ tn_bp E b n a rp' 0 ∧ rl'.toInt = L) ∨
  ((∀ a b, a < 20 → b < 20 → x = nI a → y = nI b → ∀ n L, ¬ tn_wk E n a b L) ∧ r = -1 ∧ rp' = rp ∧ rs' = rs ∧ rl' = rl)
def sp_ref (E : Nat → Nat → Int → Prop) (i j : Nat) (c : Int) (r : Int32) (rp : Nat → Nat) (rs : Nat) (rl : Int64) (rp' : Nat → Nat) (rs' : Nat) (rl' : Int64) : Prop :=
  (∃ (L : Int) (n : Nat), tn_best E j i L n ∧ L + c < 0 ∧ n ≤ 19 ∧ r = nI 1 ∧ rs' = n + 2 ∧ rp' 0 = i ∧ tn_bp E i n j rp' 1 ∧ rl'.toInt = L + c) ∨
  ((∀ n L, tn_wk E n j i L → 0 ≤ L + c) ∧ r = nI 0 ∧ rp' = rp ∧ rs' = rs ∧ rl' = rl)
def sp_slack (cnt : Nat) (fp sp : Nat → Nat) (mo : Nat → Int64) (on : Nat → Bool) (x : Int32) (r : Int64) : Prop :=
  (∃ (k : Nat) (L : Int) (n : Nat), k < cnt ∧ x = nI k ∧ on k = true ∧ tn_best (tn_E cnt fp sp mo on) (fp k) (sp k) L n ∧ r.toInt = (mo k).toInt - L) ∨ ((∀ k, k < cnt → x = nI k → on k = false) ∧ r = -1)
def sp_off (cnt : Nat) (on : Nat → Bool) (x r : Int32) (on' : Nat → Bool) : Prop :=
  (∃ k, k < cnt ∧ x = nI k ∧ on k = true ∧ r = nI 1 ∧ on' = va_up on k false) ∨ ((∀ k, k < cnt → x = nI k → on k = false) ∧ r = nI 0 ∧ on' = on)
def sp_rowAt (rp : Nat → Nat) (rs : Nat) (x r : Int32) : Prop := (∃ k, k < rs ∧ x = nI k ∧ r = nI (rp k)) ∨ ((∀ k, k < rs → x ≠ nI k) ∧ r = -1)
def sp_on (cnt : Nat) (fp sp : Nat → Nat) (mo : Nat → Int64) (on : Nat → Bool) (x r : Int32) (rp : Nat → Nat) (rs : Nat) (rl : Int64) (on' : Nat → Bool) (rp' : Nat → Nat) (rs' : Nat) (rl' : Int64) : Prop :=
  (∃ (k : Nat) (z : Int32), k < cnt ∧ x = nI k ∧ on k = false ∧ sp_ref (tn_E cnt fp sp mo on) (fp k) (sp k) (mo k).toInt z rp rs rl rp' rs' rl' ∧ ((z = nI 1 ∧ r = -2 ∧ on' = on) ∨ (z = nI 0 ∧ r = nI k ∧ on' = va_up on k true))) ∨
  ((∀ k, k < cnt → x = nI k → on k = true) ∧ r = -1 ∧ on' = on ∧ rp' = rp ∧ rs' = rs ∧ rl' = rl)
def sp_add (cnt : Nat) (fp sp : Nat → Nat) (mo : Nat → Int64) (on : Nat → Bool) (x y : Int32) (c : Int64) (r : Int32) (rp : Nat → Nat) (rs : Nat) (rl : Int64) (cnt' : Nat) (fp' sp' : Nat → Nat) (mo' : Nat → Int64) (on' : Nat → Bool) (rp' : Nat → Nat) (rs' : Nat) (rl' : Int64) : Prop :=
  (∃ (a b : Nat) (z : Int32), cnt < 120 ∧ a < 20 ∧ b < 20 ∧ a ≠ b ∧ x = nI a ∧ y = nI b ∧ -1000000000000 ≤ c.toInt ∧ c.toInt ≤ 1000000000000 ∧ sp_ref (tn_E cnt fp sp mo on) a b c.toInt z rp rs rl rp' rs' rl' ∧
    ((z = nI 1 ∧ r = -2 ∧ cnt' = cnt ∧ fp' = fp ∧ sp' = sp ∧ mo' = mo ∧ on' = on) ∨ (z = nI 0 ∧ r = nI cnt ∧ cnt' = cnt + 1 ∧ fp' = va_up fp cnt a ∧ sp' = va_up sp cnt b ∧ mo' = vp_updL mo cnt c ∧ on' = va_up on cnt true))) ∨
  ((cnt < 120 → ∀ a b, a < 20 → b < 20 → a ≠ b → x = nI a → y = nI b → -1000000000000 ≤ c.toInt → ¬ c.toInt ≤ 1000000000000) ∧ r = -1 ∧ cnt' = cnt ∧ fp' = fp ∧ sp' = sp ∧ mo' = mo ∧ on' = on ∧ rp' = rp ∧ rs' = rs ∧ rl' = rl)
