/-! THE MEASURING OF THE CLASS: its arrays as functions, and what they hold at the end -/
abbrev tn_MX : Int64 := 9223372036854775807
abbrev tn_D : Type := (Nat → Int64) × (Nat → Int32)
/-- the edges that are on -/
def tn_E (cnt : Nat) (fp sp : Nat → Nat) (mo : Nat → Int64) (on : Nat → Bool) : Nat → Nat → Int → Prop := fun i j c => ∃ k, k < cnt ∧ on k = true ∧ fp k = i ∧ sp k = j ∧ (mo k).toInt = c
def tn_good (cnt : Nat) (fp sp : Nat → Nat) (mo : Nat → Int64) : Prop := cnt ≤ 120 ∧ ∀ k, k < cnt → fp k < 20 ∧ sp k < 20 ∧ -1000000000000 ≤ (mo k).toInt ∧ (mo k).toInt ≤ 1000000000000
abbrev tn_imp (fp sp : Nat → Nat) (mo : Nat → Int64) (k : Nat) (d : tn_D) : Prop :=
  d.1 (sp k) ≠ tn_MX ∧ (mo k + d.1 (sp k) < d.1 (fp k) ∨ (mo k + d.1 (sp k) = d.1 (fp k) ∧ d.2 (sp k) + 1 < d.2 (fp k)))
def tn_stp (fp sp : Nat → Nat) (mo : Nat → Int64) (k : Nat) (d : tn_D) : tn_D := (vp_updL d.1 (fp k) (mo k + d.1 (sp k)), upd d.2 (fp k) (d.2 (sp k) + 1))
/-- a round, as far as constraint k -/
def tn_rnd (fp sp : Nat → Nat) (mo : Nat → Int64) (on : Nat → Bool) (d : tn_D) : Nat → tn_D × Bool
  | 0 => (d, false)
  | k + 1 => if on k = true ∧ tn_imp fp sp mo k (tn_rnd fp sp mo on d k).1 then (tn_stp fp sp mo k (tn_rnd fp sp mo on d k).1, true) else tn_rnd fp sp mo on d k
/-- at most r rounds -/
def tn_lop (cnt : Nat) (fp sp : Nat → Nat) (mo : Nat → Int64) (on : Nat → Bool) : Nat → tn_D → tn_D
  | 0, d => d
  | r + 1, d => if (tn_rnd fp sp mo on d cnt).2 = true then tn_lop cnt fp sp mo on r (tn_rnd fp sp mo on d cnt).1 else (tn_rnd fp sp mo on d cnt).1
def tn_d0 (lf : Nat → Int64) (sf : Nat → Int32) (t : Nat) : tn_D := (vp_updL (fun p => if p < 20 then tn_MX else lf p) t 0, upd (fun p => if p < 20 then -1 else sf p) t 0)
theorem tn_addI {a b : Int64} (h1 : -4000000000000000 ≤ a.toInt) (h2 : a.toInt ≤ 4000000000000000) (h3 : -4000000000000000 ≤ b.toInt) (h4 : b.toInt ≤ 4000000000000000) : (a + b).toInt = a.toInt + b.toInt := by
  rw [Int64.toInt_add]
  exact Int.bmod_eq_of_le (by omega) (by omega)
theorem tn_subI {a b : Int64} (h1 : -4000000000000000 ≤ a.toInt) (h2 : a.toInt ≤ 4000000000000000) (h3 : -4000000000000000 ≤ b.toInt) (h4 : b.toInt ≤ 4000000000000000) : (a - b).toInt = a.toInt - b.toInt := by
  rw [Int64.toInt_sub]
  exact Int.bmod_eq_of_le (by omega) (by omega)
theorem tn_MXI : tn_MX.toInt = 9223372036854775807 := by decide
theorem tn_neMX {a : Int64} (h : a.toInt ≤ 8000000000000000) : a ≠ tn_MX := by
  intro e
  rw [e, tn_MXI] at h; omega
theorem tn_E_in {cnt : Nat} {fp sp : Nat → Nat} {mo : Nat → Int64} {on : Nat → Bool} (g : tn_good cnt fp sp mo) : ∀ i j c, tn_E cnt fp sp mo on i j c → i < 20 ∧ j < 20 := by
  rintro i j c ⟨k, hk, -, rfl, rfl, -⟩
  exact ⟨(g.2 k hk).1, (g.2 k hk).2.1⟩
theorem tn_E_bd {cnt : Nat} {fp sp : Nat → Nat} {mo : Nat → Int64} {on : Nat → Bool} (g : tn_good cnt fp sp mo) : ∀ i j c, tn_E cnt fp sp mo on i j c → -1000000000000 ≤ c ∧ c ≤ 1000000000000 := by
  rintro i j c ⟨k, hk, -, -, -, rfl⟩
  exact (g.2 k hk).2.2
def tn_snd (E : Nat → Nat → Int → Prop) (t T : Nat) (d : tn_D) : Prop := ∀ p, p < 20 → d.1 p ≠ tn_MX → ∃ n, n ≤ T ∧ d.2 p = nI n ∧ tn_wk E n p t (d.1 p).toInt
def tn_ub (d : tn_D) (p : Nat) (M : Int) (m : Nat) : Prop := d.1 p ≠ tn_MX ∧ ∃ n, n ≤ 4000 ∧ d.2 p = nI n ∧ tn_le (d.1 p).toInt n M m
theorem tn_snd_bd {E : Nat → Nat → Int → Prop} {t T : Nat} {d : tn_D} (hE : ∀ i j c, E i j c → -1000000000000 ≤ c ∧ c ≤ 1000000000000) (hT : T ≤ 3000) (h : tn_snd E t T d) {p : Nat} (hp : p < 20) (hm : d.1 p ≠ tn_MX) : -3000000000000000 ≤ (d.1 p).toInt ∧ (d.1 p).toInt ≤ 3000000000000000 := by
  obtain ⟨n, h1, -, w⟩ := h p hp hm
  have := tn_wk_bd hE n w
  omega
/-- one constraint -/
theorem tn_one {cnt : Nat} {fp sp : Nat → Nat} {mo : Nat → Int64} {on : Nat → Bool} {t T k : Nat} {d : tn_D} (g : tn_good cnt fp sp mo) (hk : k < cnt) (hon : on k = true) (hT : T ≤ 2900) (hs : tn_snd (tn_E cnt fp sp mo on) t T d) (d' : tn_D) (hd : d' = if tn_imp fp sp mo k d then tn_stp fp sp mo k d else d) :
    tn_snd (tn_E cnt fp sp mo on) t (T + 1) d' ∧ (∀ p M m, tn_ub d p M m → tn_ub d' p M m) ∧ (∀ M m, tn_ub d (sp k) M m → tn_ub d' (fp k) ((mo k).toInt + M) (m + 1)) := by
  have hg := g.2 k hk
  have hbd : ∀ p, p < 20 → d.1 p ≠ tn_MX → -3000000000000000 ≤ (d.1 p).toInt ∧ (d.1 p).toInt ≤ 3000000000000000 := fun p hp hm => tn_snd_bd (tn_E_bd g) (by omega) hs hp hm
  have hnew : d.1 (sp k) ≠ tn_MX → (mo k + d.1 (sp k)).toInt = (mo k).toInt + (d.1 (sp k)).toInt := fun hm => by
    have := hbd _ hg.2.1 hm
    exact tn_addI (by omega) (by omega) (by omega) (by omega)
  have hnewM : d.1 (sp k) ≠ tn_MX → mo k + d.1 (sp k) ≠ tn_MX := fun hm => by
    have h1 := hnew hm
    have := hbd _ hg.2.1 hm
    exact tn_neMX (by omega)
  by_cases hi : tn_imp fp sp mo k d
  · rw [if_pos hi] at hd
    obtain ⟨hq, hb⟩ := hi
    obtain ⟨n, hn, hsn, w⟩ := hs _ hg.2.1 hq
    have e1 : d'.1 (fp k) = mo k + d.1 (sp k) := by rw [hd]; exact pk_uLs
    have e2 : d'.2 (fp k) = nI (n + 1) := by rw [hd]; show upd d.2 (fp k) (d.2 (sp k) + 1) (fp k) = _; rw [pk_us, hsn, nI_1]
    have e3 : ∀ p, p ≠ fp k → d'.1 p = d.1 p ∧ d'.2 p = d.2 p := fun p hp => by rw [hd]; exact ⟨pk_uLn hp, pk_un hp⟩
    refine ⟨?_, ?_, ?_⟩
    · intro p hp hm
      by_cases he : p = fp k
      · subst he
        refine ⟨n + 1, by omega, e2, ?_⟩
        rw [e1, hnew hq]
        exact tn_wk_cons ⟨k, hk, hon, rfl, rfl, rfl⟩ w
      · rw [(e3 p he).1] at hm ⊢
        rw [(e3 p he).2]
        obtain ⟨n', h1, h2, h3⟩ := hs p hp hm
        exact ⟨n', by omega, h2, h3⟩
    · intro p M m ⟨hm, n', h1, h2, h3⟩
      by_cases he : p = fp k
      · subst he
        refine ⟨by rw [e1]; exact hnewM hq, n + 1, by omega, e2, ?_⟩
        rw [e1]
        rcases hb with hb | ⟨hb, hc⟩
        · have := Int64.lt_iff_toInt_lt.mp hb
          unfold tn_le at h3 ⊢; omega
        · rw [hsn, h2, nI_1, nI_ltI (by omega) (by omega)] at hc
          rw [hb]; unfold tn_le at h3 ⊢; omega
      · refine ⟨by rw [(e3 p he).1]; exact hm, n', h1, by rw [(e3 p he).2]; exact h2, ?_⟩
        rw [(e3 p he).1]; exact h3
    · intro M m ⟨hm, n', h1, h2, h3⟩
      refine ⟨by rw [e1]; exact hnewM hq, n + 1, by omega, e2, ?_⟩
      have : n = n' := (nI_eq (by omega) (by omega)).mp (hsn.symm.trans h2)
      subst this
      rw [e1, hnew hq]
      unfold tn_le at h3 ⊢; omega
  · rw [if_neg hi] at hd
    subst hd
    refine ⟨fun p hp hm => ?_, fun p M m h => h, ?_⟩
    · obtain ⟨n', h1, h2, h3⟩ := hs p hp hm
      exact ⟨n', by omega, h2, h3⟩
    · intro M m ⟨hq, n', h1, h2, h3⟩
      have ha : ¬ mo k + d'.1 (sp k) < d'.1 (fp k) := fun h => hi ⟨hq, Or.inl h⟩
      have hb : mo k + d'.1 (sp k) = d'.1 (fp k) → ¬ d'.2 (sp k) + 1 < d'.2 (fp k) := fun h h' => hi ⟨hq, Or.inr ⟨h, h'⟩⟩
      rw [Int64.lt_iff_toInt_lt, hnew hq] at ha
      have hbq := hbd _ hg.2.1 hq
      have hp : d'.1 (fp k) ≠ tn_MX := by
        intro e
        rw [e, tn_MXI] at ha; omega
      obtain ⟨np, k1, k2, k3⟩ := hs _ hg.1 hp
      refine ⟨hp, np, by omega, k2, ?_⟩
      rcases Int.lt_or_le (d'.1 (fp k)).toInt ((mo k).toInt + (d'.1 (sp k)).toInt) with hl | hl
      · unfold tn_le at h3 ⊢; omega
      · have he : mo k + d'.1 (sp k) = d'.1 (fp k) := Int64.toInt_inj.mp (by rw [hnew hq]; omega)
        have h4 := hb he
        rw [h2, k2, nI_1, nI_ltI (by omega) (by omega)] at h4
        unfold tn_le at h3 ⊢; omega
/-- a round -/
theorem tn_rnd_ok {cnt : Nat} {fp sp : Nat → Nat} {mo : Nat → Int64} {on : Nat → Bool} {t T : Nat} {d : tn_D} (g : tn_good cnt fp sp mo) (hT : T + cnt ≤ 2900) (hs : tn_snd (tn_E cnt fp sp mo on) t T d) : ∀ k, k ≤ cnt →
    tn_snd (tn_E cnt fp sp mo on) t (T + k) (tn_rnd fp sp mo on d k).1 ∧ (∀ p M m, tn_ub d p M m → tn_ub (tn_rnd fp sp mo on d k).1 p M m) ∧
    (∀ j, j < k → on j = true → ∀ M m, tn_ub d (sp j) M m → tn_ub (tn_rnd fp sp mo on d k).1 (fp j) ((mo j).toInt + M) (m + 1)) ∧ ((tn_rnd fp sp mo on d k).2 = false → (tn_rnd fp sp mo on d k).1 = d) := by
  intro k
  induction k with
  | zero => intro _; exact ⟨hs, fun _ _ _ h => h, fun j hj => absurd hj (by omega), fun _ => rfl⟩
  | succ k ih =>
    intro hk
    obtain ⟨i1, i2, i3, i4⟩ := ih (by omega)
    by_cases hon : on k = true
    · have e1 : (tn_rnd fp sp mo on d (k + 1)).1 = if tn_imp fp sp mo k (tn_rnd fp sp mo on d k).1 then tn_stp fp sp mo k (tn_rnd fp sp mo on d k).1 else (tn_rnd fp sp mo on d k).1 := by
        rw [tn_rnd]
        by_cases hi : tn_imp fp sp mo k (tn_rnd fp sp mo on d k).1
        · rw [if_pos ⟨hon, hi⟩, if_pos hi]
        · rw [if_neg (fun h => hi h.2), if_neg hi]
      obtain ⟨j1, j2, j3⟩ := tn_one g (show k < cnt by omega) hon (by omega) i1 _ e1
      refine ⟨j1, fun p M m h => j2 p M m (i2 p M m h), ?_, ?_⟩
      · intro j hj hoj M m h
        rcases Nat.lt_or_ge j k with h1 | h1
        · exact j2 _ _ _ (i3 j h1 hoj M m h)
        · have : j = k := by omega
          subst this
          exact j3 M m (i2 _ _ _ h)
      · intro h
        rw [tn_rnd] at h ⊢
        by_cases hi : tn_imp fp sp mo k (tn_rnd fp sp mo on d k).1
        · rw [if_pos ⟨hon, hi⟩] at h; cases h
        · rw [if_neg (fun h => hi h.2)] at h ⊢
          exact i4 h
    · have e1 : tn_rnd fp sp mo on d (k + 1) = tn_rnd fp sp mo on d k := by
        rw [tn_rnd, if_neg (fun h => hon h.1)]
      rw [e1]
      refine ⟨fun p hp hm => ?_, i2, ?_, i4⟩
      · obtain ⟨n', h1, h2, h3⟩ := i1 p hp hm
        exact ⟨n', by omega, h2, h3⟩
      · intro j hj hoj
        rcases Nat.lt_or_ge j k with h1 | h1
        · exact i3 j h1 hoj
        · have : j = k := by omega
          subst this
          exact absurd hoj hon
def tn_cmp (E : Nat → Nat → Int → Prop) (t R : Nat) (d : tn_D) : Prop := ∀ p m M, m ≤ R → tn_wk E m p t M → tn_ub d p M m
theorem tn_cmp_s {cnt : Nat} {fp sp : Nat → Nat} {mo : Nat → Int64} {on : Nat → Bool} {t R : Nat} {d d' : tn_D} (h : tn_cmp (tn_E cnt fp sp mo on) t R d) (hm : ∀ p M m, tn_ub d p M m → tn_ub d' p M m) (hr : ∀ j, j < cnt → on j = true → ∀ M m, tn_ub d (sp j) M m → tn_ub d' (fp j) ((mo j).toInt + M) (m + 1)) : tn_cmp (tn_E cnt fp sp mo on) t (R + 1) d' := by
  intro p m M hmR w
  cases m with
  | zero => exact hm _ _ _ (h p 0 M (by omega) w)
  | succ m =>
    obtain ⟨q, c, ⟨k, hk, hon, rfl, rfl, rfl⟩, w⟩ := w
    have h1 := hr k hk hon _ _ (h _ _ _ (by omega) w)
    rw [show (mo k).toInt + (M - (mo k).toInt) = M by omega] at h1
    exact h1
theorem tn_lop_ok {cnt : Nat} {fp sp : Nat → Nat} {mo : Nat → Int64} {on : Nat → Bool} {t : Nat} (g : tn_good cnt fp sp mo) : ∀ (r T R : Nat) (d : tn_D), T + r * 120 ≤ 2900 → tn_snd (tn_E cnt fp sp mo on) t T d → tn_cmp (tn_E cnt fp sp mo on) t R d →
    tn_snd (tn_E cnt fp sp mo on) t 2900 (tn_lop cnt fp sp mo on r d) ∧ tn_cmp (tn_E cnt fp sp mo on) t (R + r) (tn_lop cnt fp sp mo on r d) := by
  have hw : ∀ {T T' : Nat} {d : tn_D}, T ≤ T' → tn_snd (tn_E cnt fp sp mo on) t T d → tn_snd (tn_E cnt fp sp mo on) t T' d := fun h hs p hp hm => by
    obtain ⟨n', h1, h2, h3⟩ := hs p hp hm
    exact ⟨n', by omega, h2, h3⟩
  intro r
  induction r with
  | zero => intro T R d hT hs hc; exact ⟨hw (by omega) hs, hc⟩
  | succ r ih =>
    intro T R d hT hs hc
    have hcnt := g.1
    obtain ⟨i1, i2, i3, i4⟩ := tn_rnd_ok g (by omega) hs cnt (Nat.le_refl _)
    rw [tn_lop]
    by_cases hx : (tn_rnd fp sp mo on d cnt).2 = true
    · rw [if_pos hx]
      obtain ⟨j1, j2⟩ := ih (T + cnt) (R + 1) _ (by omega) i1 (tn_cmp_s hc i2 i3)
      exact ⟨j1, by rw [show R + (r + 1) = R + 1 + r by omega]; exact j2⟩
    · rw [if_neg hx]
      have e := i4 (by simpa using hx)
      rw [e] at i2 i3 ⊢
      refine ⟨hw (by omega) hs, ?_⟩
      have : ∀ n, tn_cmp (tn_E cnt fp sp mo on) t (R + n) d := by
        intro n
        induction n with
        | zero => exact hc
        | succ n ihn => exact tn_cmp_s ihn i2 i3
      exact this (r + 1)
theorem tn_d0_1 {lf : Nat → Int64} {sf : Nat → Int32} {t : Nat} : (tn_d0 lf sf t).1 t = 0 := by simp [tn_d0, vp_updL]
theorem tn_d0_2 {lf : Nat → Int64} {sf : Nat → Int32} {t : Nat} : (tn_d0 lf sf t).2 t = nI 0 := by simp [tn_d0, upd, nI_0]
theorem tn_d0_n {lf : Nat → Int64} {sf : Nat → Int32} {t p : Nat} (h : p ≠ t) (hp : p < 20) : (tn_d0 lf sf t).1 p = tn_MX := by
  simp [tn_d0, vp_updL, h, hp]
/-- WHAT THE MEASURING GIVES -/
theorem tn_meas {cnt : Nat} {fp sp : Nat → Nat} {mo : Nat → Int64} {on : Nat → Bool} {lf : Nat → Int64} {sf : Nat → Int32} {t : Nat} (g : tn_good cnt fp sp mo) (ok : tn_ok (tn_E cnt fp sp mo on)) (ht : t < 20) (d : tn_D) (hd : d = tn_lop cnt fp sp mo on 19 (tn_d0 lf sf t)) : ∀ p, p < 20 →
    (d.1 p = tn_MX ∧ ∀ n L, ¬ tn_wk (tn_E cnt fp sp mo on) n p t L) ∨ (d.1 p ≠ tn_MX ∧ ∃ n, n ≤ 19 ∧ d.2 p = nI n ∧ tn_best (tn_E cnt fp sp mo on) p t (d.1 p).toInt n) := by
  have hs0 : tn_snd (tn_E cnt fp sp mo on) t 0 (tn_d0 lf sf t) := by
    intro p hp hm
    by_cases he : p = t
    · subst he
      refine ⟨0, Nat.le_refl 0, tn_d0_2, rfl, ?_⟩
      rw [tn_d0_1]; rfl
    · exact absurd (tn_d0_n he hp) hm
  have hc0 : tn_cmp (tn_E cnt fp sp mo on) t 0 (tn_d0 lf sf t) := by
    intro p m M hm w
    obtain rfl : m = 0 := by omega
    obtain ⟨rfl, rfl⟩ := w
    refine ⟨by rw [tn_d0_1]; decide, 0, by omega, tn_d0_2, ?_⟩
    rw [tn_d0_1]; exact Or.inr ⟨rfl, Nat.le_refl 0⟩
  obtain ⟨hs, hc⟩ := tn_lop_ok g 19 0 0 _ (by omega) hs0 hc0
  rw [← hd] at hs hc
  rw [Nat.zero_add] at hc
  have hall : ∀ p m M, tn_wk (tn_E cnt fp sp mo on) m p t M → tn_ub d p M m := by
    intro p m M w
    obtain ⟨m', M', k1, k2, k3, k4⟩ := tn_cut (tn_E_in g) ok m p t M w
    obtain ⟨hm, n, h1, h2, h3⟩ := hc p m' M' k1 k4
    refine ⟨hm, n, h1, h2, ?_⟩
    unfold tn_le at h3 ⊢; omega
  intro p hp
  by_cases hm : d.1 p = tn_MX
  · exact Or.inl ⟨hm, fun n L w => (hall p n L w).1 hm⟩
  · refine Or.inr ⟨hm, ?_⟩
    obtain ⟨n, h1, h2, h3⟩ := hs p hp hm
    have hb : tn_best (tn_E cnt fp sp mo on) p t (d.1 p).toInt n := by
      refine ⟨h3, fun m M w => ?_⟩
      obtain ⟨-, n', k1, k2, k3⟩ := hall p m M w
      have : n = n' := (nI_eq (by omega) (by omega)).mp (h2.symm.trans k2)
      rw [this]; exact k3
    exact ⟨n, tn_best_small (tn_E_in g) ok hb, h2, hb⟩
