/-! numbers as places; the class's own loops as functions -/
theorem tn_ix1 {x : Int32} {n : Nat} (h1 : ¬ x < 0) (h2 : ¬ nI n ≤ x) (hn : n < 2 ^ 31) : ∃ j, j < n ∧ x = nI j := by
  obtain ⟨j, a, b, -⟩ := pk_mu h1 h2 hn
  exact ⟨j, a, b⟩
theorem tn_ix2 {x : Int32} {n : Nat} (h : x < 0) (hn : n < 2 ^ 31) : ∀ j, j < n → x ≠ nI j := fun j hj e => nI_pos (show j < 2 ^ 31 by omega) (e ▸ h)
theorem tn_ix3 {x : Int32} {n : Nat} (h : nI n ≤ x) (hn : n < 2 ^ 31) : ∀ j, j < n → x ≠ nI j := fun j hj e => nI_ge hj hn (e ▸ h)
/-- the next point of a best path, as far as constraint k -/
def tn_nxt (fp sp : Nat → Nat) (mo : Nat → Int64) (on : Nat → Bool) (d : tn_D) (p : Nat) : Nat → Nat
  | 0 => 20
  | k + 1 => if fp k = p ∧ sp k < tn_nxt fp sp mo on d p k ∧ on k = true ∧ d.1 (sp k) ≠ tn_MX ∧ mo k + d.1 (sp k) = d.1 (fp k) ∧ d.2 (sp k) + 1 = d.2 (fp k) then sp k else tn_nxt fp sp mo on d p k
theorem tn_nxt_le (fp sp : Nat → Nat) (mo : Nat → Int64) (on : Nat → Bool) (d : tn_D) (p : Nat) : ∀ k, tn_nxt fp sp mo on d p k ≤ 20 := by
  intro k
  induction k with
  | zero => exact Nat.le_refl 20
  | succ k ih => rw [tn_nxt]; split <;> omega
/-- the row behind n steps from p, the points put from place a on -/
def tn_put (nx : Nat → Nat) (a : Nat) : Nat → Nat → (Nat → Nat) → (Nat → Nat)
  | 0, _, rp => rp
  | n + 1, p, rp => tn_put nx (a + 1) n (nx p) (va_up rp a (nx p))
