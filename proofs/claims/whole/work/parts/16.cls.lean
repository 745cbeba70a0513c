/-! the class's own ways to what the calls answer -/
theorem tn_ms_ok {cnt : Nat} {fp sp : Nat → Nat} {mo : Nat → Int64} {on : Nat → Bool} {lf : Nat → Int64} {sf : Nat → Int32} {t : Nat} (g : tn_good cnt fp sp mo) (ok : tn_ok (tn_E cnt fp sp mo on)) (ht : t < 20) {u : tn_D} (hu : u = tn_ms cnt fp sp mo on lf sf t) : tn_mok (tn_E cnt fp sp mo on) t u := tn_meas g ok ht u hu
abbrev tn_fpP (cnt : Nat) (fp sp : Nat → Nat) (mo : Nat → Int64) (on : Nat → Bool) (lf : Nat → Int64) (sf : Nat → Int32) (x y r : Int32) (u : tn_D) : Prop :=
  (∃ a b, a < 20 ∧ b < 20 ∧ x = nI a ∧ y = nI b ∧ u = tn_ms cnt fp sp mo on lf sf b ∧ ((r = nI 0 ∧ u.1 a = tn_MX) ∨ (r = nI 1 ∧ u.1 a ≠ tn_MX))) ∨ ((∀ a b, a < 20 → b < 20 → ¬ (x = nI a ∧ y = nI b)) ∧ r = nI 0 ∧ u = (lf, sf))
theorem tn_fpN {cnt : Nat} {fp sp : Nat → Nat} {mo : Nat → Int64} {on : Nat → Bool} {lf : Nat → Int64} {sf : Nat → Int32} (g : tn_good cnt fp sp mo) (ok : tn_ok (tn_E cnt fp sp mo on)) {i j : Nat} (hi : i < 20) (hj : j < 20) {r : Int32} {u : tn_D} (h : tn_fpP cnt fp sp mo on lf sf (nI i) (nI j) r u) :
    tn_mok (tn_E cnt fp sp mo on) j u ∧ ((r = nI 0 ∧ u.1 i = tn_MX) ∨ (r = nI 1 ∧ u.1 i ≠ tn_MX)) := by
  rcases h with ⟨a, b, ha, hb, e1, e2, e3, e4⟩ | ⟨q, -⟩
  · have e1 := (nI_eq (by omega) (by omega)).mp e1
    have e2 := (nI_eq (by omega) (by omega)).mp e2
    subst e1; subst e2
    exact ⟨tn_ms_ok g ok hj e3, e4⟩
  · exact absurd ⟨rfl, rfl⟩ (q i j hi hj)
theorem tn_mok_f {E : Nat → Nat → Int → Prop} {t : Nat} {d : tn_D} (h : tn_mok E t d) {p : Nat} (hp : p < 20) (hm : d.1 p ≠ tn_MX) : ∃ n, n ≤ 19 ∧ d.2 p = nI n ∧ tn_best E p t (d.1 p).toInt n := by
  rcases h p hp with q | q
  · exact absurd q.1 hm
  · exact q.2
theorem tn_mok_n {E : Nat → Nat → Int → Prop} {t : Nat} {d : tn_D} (h : tn_mok E t d) {p : Nat} (hp : p < 20) (hm : d.1 p = tn_MX) : ∀ n L, ¬ tn_wk E n p t L := by
  rcases h p hp with q | q
  · exact q.2
  · exact absurd hm q.1
theorem tn_negI {a : Int64} (h : a < 0) : a.toInt < 0 := by
  have := Int64.lt_iff_toInt_lt.mp h
  simpa using this
theorem tn_nnegI {a : Int64} (h : ¬ a < 0) : 0 ≤ a.toInt := by
  rw [Int64.lt_iff_toInt_lt] at h
  have e : (0 : Int64).toInt = 0 := by decide
  rw [e] at h; omega
/-- not refused: there is no way, or the way isn't short enough -/
theorem tn_ref_no {cnt : Nat} {fp sp : Nat → Nat} {mo : Nat → Int64} {on : Nat → Bool} (g : tn_good cnt fp sp mo) {i j : Nat} (hj : j < 20) {c : Int64} (h1 : -1000000000000 ≤ c.toInt) (h2 : c.toInt ≤ 1000000000000) {u : tn_D} (hm : tn_mok (tn_E cnt fp sp mo on) i u) (h : u.1 j = tn_MX ∨ (u.1 j ≠ tn_MX ∧ ¬ u.1 j + c < 0)) :
    ∀ n L, tn_wk (tn_E cnt fp sp mo on) n j i L → 0 ≤ L + c.toInt := by
  intro n L w
  rcases h with h | ⟨h, k⟩
  · exact absurd w (tn_mok_n hm hj h n L)
  · obtain ⟨m, hm1, -, hb⟩ := tn_mok_f hm hj h
    have k := tn_nnegI k
    have bd := tn_wk_bd (tn_E_bd g) m hb.1
    rw [tn_addI (by omega) (by omega) (by omega) (by omega)] at k
    have := hb.2 _ _ w
    unfold tn_le at this; omega
theorem tn_ref_yes {cnt : Nat} {fp sp : Nat → Nat} {mo : Nat → Int64} {on : Nat → Bool} (g : tn_good cnt fp sp mo) {i j n0 : Nat} {c : Int64} (h1 : -1000000000000 ≤ c.toInt) (h2 : c.toInt ≤ 1000000000000) {u : tn_D} (hm : tn_mok (tn_E cnt fp sp mo on) i u) (hn0 : n0 ≤ 19) (hb : tn_best (tn_E cnt fp sp mo on) j i (u.1 j).toInt n0) (hc : u.1 j + c < 0) (rp : Nat → Nat) (rs : Nat) (rl : Int64) {v : (Nat → Nat) × Nat}
    (hv : v = (tn_put (fun q => tn_nxt fp sp mo on (u.1, u.2) q cnt) (0 + 1 + 1) n0 j (va_up (va_up rp 0 i) (0 + 1) j), 0 + 1 + 1 + n0)) :
    sp_ref (tn_E cnt fp sp mo on) i j c.toInt (nI 1) rp rs rl v.1 v.2 (u.1 j + c) := by
  have bd := tn_wk_bd (tn_E_bd g) n0 hb.1
  have e := tn_addI (a := u.1 j) (b := c) (by omega) (by omega) (by omega) (by omega)
  have hn := tn_negI hc
  rw [e] at hn
  subst hv
  refine Or.inl ⟨_, n0, hb, hn, hn0, rfl, by show 0 + 1 + 1 + n0 = n0 + 2; omega, ?_, ?_, e⟩
  · show tn_put _ (0 + 1 + 1) n0 j (va_up (va_up rp 0 i) (0 + 1) j) 0 = i
    rw [tn_put_lo _ _ _ _ _ _ (by omega)]
    simp [va_up]
  · exact tn_put_bp (fun p L n hb => tn_nxt_ok g hm hb) hb _ (by simp [va_up])
theorem tn_path_yes {cnt : Nat} {fp sp : Nat → Nat} {mo : Nat → Int64} {on : Nat → Bool} (g : tn_good cnt fp sp mo) {a b n0 : Nat} (ha : a < 20) (hb : b < 20) {u : tn_D} (hm : tn_mok (tn_E cnt fp sp mo on) b u) (hn0 : n0 ≤ 19) (hbe : tn_best (tn_E cnt fp sp mo on) a b (u.1 a).toInt n0) (rp : Nat → Nat) (rs : Nat) (rl : Int64) {v : (Nat → Nat) × Nat}
    (hv : v = (tn_put (fun q => tn_nxt fp sp mo on (u.1, u.2) q cnt) (0 + 1) n0 a (va_up rp 0 a), 0 + 1 + n0)) :
    sp_path (tn_E cnt fp sp mo on) (nI a) (nI b) (nI v.2) rp rs rl v.1 v.2 (u.1 a) := by
  subst hv
  have e : 0 + 1 + n0 = n0 + 1 := by omega
  refine Or.inl ⟨a, b, _, n0, ha, hb, rfl, rfl, hbe, hn0, by show nI (0 + 1 + n0) = _; rw [e], e, ?_, rfl⟩
  exact tn_put_bp (a := 0) (fun p L n hb => tn_nxt_ok g hm hb) hbe _ (by simp [va_up])
theorem tn_cn_le (on : Nat → Bool) : ∀ k, tn_cn on k ≤ k := by
  intro k
  induction k with
  | zero => exact Nat.le_refl 0
  | succ k ih => rw [tn_cn]; split <;> omega
theorem tn_cn_pos {on : Nat → Bool} : ∀ {cnt k : Nat}, k < cnt → on k = true → 1 ≤ tn_cn on cnt := by
  intro cnt
  induction cnt with
  | zero => intro k h; exact absurd h (by omega)
  | succ n ih =>
    intro k h ho
    rw [tn_cn]
    rcases Nat.lt_or_ge k n with q | q
    · have := ih q ho; omega
    · have : k = n := by omega
      subst this
      rw [if_pos ho]; omega
theorem tn_cn_far {on : Nat → Bool} {b : Bool} : ∀ {cnt k : Nat}, cnt ≤ k → tn_cn (va_up on k b) cnt = tn_cn on cnt := by
  intro cnt
  induction cnt with
  | zero => intro k _; rfl
  | succ n ih =>
    intro k h
    rw [tn_cn, tn_cn, ih (by omega)]
    simp [va_up, show ¬ n = k by omega]
theorem tn_cn_off {on : Nat → Bool} : ∀ {cnt k : Nat}, k < cnt → on k = true → tn_cn (va_up on k false) cnt + 1 = tn_cn on cnt := by
  intro cnt
  induction cnt with
  | zero => intro k h; exact absurd h (by omega)
  | succ n ih =>
    intro k h ho
    rw [tn_cn, tn_cn]
    rcases Nat.lt_or_ge k n with q | q
    · have := ih q ho
      simp only [va_up, show ¬ n = k by omega, if_false]
      omega
    · have : k = n := by omega
      subst this
      rw [tn_cn_far (Nat.le_refl _)]
      simp [va_up, ho]
theorem tn_cn_on {on : Nat → Bool} : ∀ {cnt k : Nat}, k < cnt → on k = false → tn_cn (va_up on k true) cnt = tn_cn on cnt + 1 := by
  intro cnt
  induction cnt with
  | zero => intro k h; exact absurd h (by omega)
  | succ n ih =>
    intro k h ho
    rw [tn_cn, tn_cn]
    rcases Nat.lt_or_ge k n with q | q
    · have := ih q ho
      simp only [va_up, show ¬ n = k by omega, if_false]
      omega
    · have : k = n := by omega
      subst this
      rw [tn_cn_far (Nat.le_refl _)]
      simp [va_up, ho]
theorem tn_slack_yes {cnt : Nat} {fp sp : Nat → Nat} {mo : Nat → Int64} {on : Nat → Bool} (g : tn_good cnt fp sp mo) (ok : tn_ok (tn_E cnt fp sp mo on)) {k : Nat} (hk : k < cnt) (ho : on k = true) {u : tn_D} (hm : tn_mok (tn_E cnt fp sp mo on) (sp k) u) : sp_slack cnt fp sp mo on (nI k) (mo k - u.1 (fp k)) := by
  have hg := g.2 k hk
  have hE : tn_E cnt fp sp mo on (fp k) (sp k) (mo k).toInt := ⟨k, hk, ho, rfl, rfl, rfl⟩
  rcases hm (fp k) hg.1 with ⟨-, q⟩ | ⟨-, n, hn, -, hb⟩
  · exact absurd (tn_wk_one hE) (q _ _)
  · have bd := tn_wk_bd (tn_E_bd g) n hb.1
    exact Or.inl ⟨k, _, n, hk, rfl, ho, hb, tn_subI (by omega) (by omega) (by omega) (by omega)⟩
