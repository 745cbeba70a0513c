/-! numbers as places; the class's own loops as functions -/
theorem tn_ix1 {x : Int32} {n : Nat} (h1 : ¬ x < 0) (h2 : ¬ nI n ≤ x) (hn : n < 2 ^ 31) : ∃ j, j < n ∧ x = nI j := by
  obtain ⟨j, a, b, -⟩ := pk_mu h1 h2 hn
  exact ⟨j, a, b⟩
theorem tn_ix2 {x : Int32} {n : Nat} (h : x < 0) (hn : n < 2 ^ 31) : ∀ j, j < n → x ≠ nI j := fun j hj e => nI_pos (show j < 2 ^ 31 by omega) (e ▸ h)
theorem tn_ix3 {x : Int32} {n : Nat} (h : nI n ≤ x) (hn : n < 2 ^ 31) : ∀ j, j < n → x ≠ nI j := fun j hj e => nI_ge hj hn (e ▸ h)
/-- the next point of a best path, as far as constraint k -/
def tn_nxt (fp sp : Nat → Nat) (mo : Nat → Int64) (on : Nat → Bool) (d : tn_D) (p : Nat) : Nat → Nat
  | 0 => 20
  | k + 1 => if fp k = p ∧ sp k < tn_nxt fp sp mo on d p k ∧ on k = true ∧ d.1 (sp k) ≠ tn_MX ∧ mo k + d.1 (sp k) = d.1 (fp k) ∧ d.2 (sp k) + 1 = d.2 (fp k) then sp k else tn_nxt fp sp mo on d p k
theorem tn_nxt_le (fp sp : Nat → Nat) (mo : Nat → Int64) (on : Nat → Bool) (d : tn_D) (p : Nat) : ∀ k, tn_nxt fp sp mo on d p k ≤ 20 := by
  intro k
  induction k with
  | zero => exact Nat.le_refl 20
  | succ k ih => rw [tn_nxt]; split <;> omega
/-- the row behind n steps from p, the points put from place a on -/
def tn_put (nx : Nat → Nat) (a : Nat) : Nat → Nat → (Nat → Nat) → (Nat → Nat)
  | 0, _, rp => rp
  | n + 1, p, rp => tn_put nx (a + 1) n (nx p) (va_up rp a (nx p))
abbrev tn_ms (cnt : Nat) (fp sp : Nat → Nat) (mo : Nat → Int64) (on : Nat → Bool) (lf : Nat → Int64) (sf : Nat → Int32) (t : Nat) : tn_D := tn_lop cnt fp sp mo on 19 (tn_d0 lf sf t)
theorem tn_fillL (f : Nat → Int64) (a : Int64) (i : Nat) : vp_updL (fun p => if p < i then a else f p) i a = fun p => if p < i + 1 then a else f p := by
  funext k; simp only [vp_updL]
  by_cases h : k = i
  · subst h; rw [if_pos rfl, if_pos (by omega)]
  · rw [if_neg h]
    by_cases h2 : k < i
    · rw [if_pos h2, if_pos (by omega)]
    · rw [if_neg h2, if_neg (by omega)]
theorem tn_fillI (f : Nat → Int32) (a : Int32) (i : Nat) : upd (fun p => if p < i then a else f p) i a = fun p => if p < i + 1 then a else f p := by
  funext k; simp only [upd]
  by_cases h : k = i
  · subst h; rw [if_pos rfl, if_pos (by omega)]
  · rw [if_neg h]
    by_cases h2 : k < i
    · rw [if_pos h2, if_pos (by omega)]
    · rw [if_neg h2, if_neg (by omega)]
theorem tn_limI : (-1000000000000 : Int64).toInt = -1000000000000 ∧ (1000000000000 : Int64).toInt = 1000000000000 := by decide
theorem tn_lim {c : Int64} (h1 : ¬ c < -1000000000000) (h2 : ¬ 1000000000000 < c) : -1000000000000 ≤ c.toInt ∧ c.toInt ≤ 1000000000000 := by
  rw [Int64.lt_iff_toInt_lt, tn_limI.1] at h1
  rw [Int64.lt_iff_toInt_lt, tn_limI.2] at h2
  omega
theorem tn_lim_lo {c : Int64} (h : c < -1000000000000) : ¬ -1000000000000 ≤ c.toInt := by
  rw [Int64.lt_iff_toInt_lt, tn_limI.1] at h; omega
theorem tn_lim_hi {c : Int64} (h : 1000000000000 < c) : ¬ c.toInt ≤ 1000000000000 := by
  rw [Int64.lt_iff_toInt_lt, tn_limI.2] at h; omega
theorem tn_pos {n : Nat} (h : nI n ≤ 0) (hn : n < 2 ^ 31) : n = 0 := by
  rcases Nat.eq_zero_or_pos n with q | q
  · exact q
  · exact absurd h (nI_nle q hn)
