/-! BOTH SIDES TIED: from one state they answer alike and come to one state -/
def tl_inv (cnt onc : Nat) (fp sp : Nat → Nat) (mo : Nat → Int64) (on : Nat → Bool) (rp : Nat → Nat) (rs : Nat) (rl : Int64) (cnt2 : Nat) (fp2 sp2 : Nat → Nat) (mo2 : Nat → Int64) (on2 : Nat → Bool) (rw : Nat → Nat) (rs2 : Nat) (rl2 : Int64) : Prop :=
  (cnt2 = cnt ∧ fp2 = fp ∧ sp2 = sp ∧ mo2 = mo ∧ on2 = on ∧ rs2 = rs ∧ rl2 = rl) ∧ tn_good cnt fp sp mo ∧ tn_ok (tn_E cnt fp sp mo on) ∧ onc = tn_cn on cnt ∧ rs ≤ 21 ∧ (∀ z, z < rs → rp z = rw z) ∧ (rs = 0 → rl = 0)
theorem tl_ref {E : Nat → Nat → Int → Prop} {i j : Nat} {c : Int} {z z' : Int32} {rp rw rp1 rw1 : Nat → Nat} {rs rs1 rs2 : Nat} {rl rl1 rl2 : Int64} (h : sp_ref E i j c z rp rs rl rp1 rs1 rl1) (k : sp_ref E i j c z' rw rs rl rw1 rs2 rl2) (hrs : rs ≤ 21) (hrow : ∀ z, z < rs → rp z = rw z) (hrl : rs = 0 → rl = 0) :
    z = z' ∧ rs2 = rs1 ∧ rl2 = rl1 ∧ rs1 ≤ 21 ∧ (∀ z, z < rs1 → rp1 z = rw1 z) ∧ (rs1 = 0 → rl1 = 0) := by
  rcases h with ⟨L, n, h1, h2, h3, h4, h5, h6, h7, h8⟩ | ⟨h1, h2, h3, h4, h5⟩ <;> rcases k with ⟨L', n', k1, k2, k3, k4, k5, k6, k7, k8⟩ | ⟨k1, k2, k3, k4, k5⟩
  · obtain ⟨e1, e2⟩ := tn_best_eq h1 k1
    subst e1; subst e2
    refine ⟨h4.trans k4.symm, by omega, Int64.toInt_inj.mp (k8.trans h8.symm), by omega, fun z hz => ?_, fun q => absurd q (by omega)⟩
    cases z with
    | zero => exact h6.trans k6.symm
    | succ z =>
      have := tn_bp_eq h7 k7 z (by omega)
      rw [show z + 1 = 1 + z by omega]; exact this
  · exact absurd (k1 _ _ h1.1) (by omega)
  · exact absurd (h1 _ _ k1.1) (by omega)
  · subst h3; subst h4; subst h5; subst k3; subst k4; subst k5
    exact ⟨h2.trans k2.symm, rfl, rfl, hrs, hrow, hrl⟩
theorem tl_E_add {cnt : Nat} {fp sp : Nat → Nat} {mo : Nat → Int64} {on : Nat → Bool} {a b : Nat} {c : Int64} : ∀ i j d, tn_E (cnt + 1) (va_up fp cnt a) (va_up sp cnt b) (vp_updL mo cnt c) (va_up on cnt true) i j d → (fun i j d => tn_E cnt fp sp mo on i j d ∨ (i = a ∧ j = b ∧ d = c.toInt)) i j d := by
  rintro i j d ⟨k, hk, h1, h2, h3, h4⟩
  by_cases hkc : k = cnt
  · subst hkc
    simp only [va_up, vp_updL, if_true] at h1 h2 h3 h4
    exact Or.inr ⟨h2.symm, h3.symm, h4.symm⟩
  · simp only [va_up, vp_updL, hkc, if_false] at h1 h2 h3 h4
    exact Or.inl ⟨k, by omega, h1, h2, h3, h4⟩
theorem tl_E_on {cnt : Nat} {fp sp : Nat → Nat} {mo : Nat → Int64} {on : Nat → Bool} {k : Nat} : ∀ i j d, tn_E cnt fp sp mo (va_up on k true) i j d → (fun i j d => tn_E cnt fp sp mo on i j d ∨ (i = fp k ∧ j = sp k ∧ d = (mo k).toInt)) i j d := by
  rintro i j d ⟨z, hz, h1, h2, h3, h4⟩
  by_cases hzk : z = k
  · subst hzk
    exact Or.inr ⟨h2.symm, h3.symm, h4.symm⟩
  · simp only [va_up, hzk, if_false] at h1
    exact Or.inl ⟨z, hz, h1, h2, h3, h4⟩
theorem tl_E_off {cnt : Nat} {fp sp : Nat → Nat} {mo : Nat → Int64} {on : Nat → Bool} {k : Nat} : ∀ i j d, tn_E cnt fp sp mo (va_up on k false) i j d → tn_E cnt fp sp mo on i j d := by
  rintro i j d ⟨z, hz, h1, h2, h3, h4⟩
  by_cases hzk : z = k
  · subst hzk
    simp [va_up] at h1
  · simp only [va_up, hzk, if_false] at h1
    exact ⟨z, hz, h1, h2, h3, h4⟩
section TLV
variable {cnt onc : Nat} {fp sp : Nat → Nat} {mo : Nat → Int64} {on : Nat → Bool} {rp : Nat → Nat} {rs : Nat} {rl : Int64} {rw : Nat → Nat}
theorem tl_add (hi : tl_inv cnt onc fp sp mo on rp rs rl cnt fp sp mo on rw rs rl) {x y : Int32} {c : Int64} {r1 r2 : Int32} {cnt1 onc1 : Nat} {fp1 sp1 : Nat → Nat} {mo1 : Nat → Int64} {on1 : Nat → Bool} {rp1 : Nat → Nat} {rs1 : Nat} {rl1 : Int64} {cnt2 : Nat} {fp2 sp2 : Nat → Nat} {mo2 : Nat → Int64} {on2 : Nat → Bool} {rw2 : Nat → Nat} {rs2 : Nat} {rl2 : Int64}
    (h : sp_add cnt fp sp mo on x y c r1 rp rs rl cnt1 fp1 sp1 mo1 on1 rp1 rs1 rl1) (ho : onc1 + cnt = onc + cnt1) (k : sp_add cnt fp sp mo on x y c r2 rw rs rl cnt2 fp2 sp2 mo2 on2 rw2 rs2 rl2) :
    r1 = r2 ∧ tl_inv cnt1 onc1 fp1 sp1 mo1 on1 rp1 rs1 rl1 cnt2 fp2 sp2 mo2 on2 rw2 rs2 rl2 := by
  obtain ⟨-, g, ok, hoc, hrs, hrow, hrl⟩ := hi
  rcases h with ⟨a, b, z, h1, h2, h3, h4, h5, h6, h7, h8, h9, h10⟩ | ⟨h1, h2, h3, h4, h5, h6, h7, h8, h9, h10⟩ <;> rcases k with ⟨a', b', z', k1, k2, k3, k4, k5, k6, k7, k8, k9, k10⟩ | ⟨k1, k2, k3, k4, k5, k6, k7, k8, k9, k10⟩
  · have ea := (nI_eq (by omega) (by omega)).mp (h5.symm.trans k5)
    have eb := (nI_eq (by omega) (by omega)).mp (h6.symm.trans k6)
    subst ea; subst eb
    obtain ⟨ez, e1, e2, e3, e4, e5⟩ := tl_ref h9 k9 hrs hrow hrl
    subst ez; subst e1; subst e2
    rcases h10 with ⟨q1, q2, rfl, rfl, rfl, rfl, rfl⟩ | ⟨q1, q2, rfl, rfl, rfl, rfl, rfl⟩ <;> rcases k10 with ⟨w1, w2, rfl, rfl, rfl, rfl, rfl⟩ | ⟨w1, w2, rfl, rfl, rfl, rfl, rfl⟩
    · exact ⟨q2.trans w2.symm, ⟨rfl, rfl, rfl, rfl, rfl, rfl, rfl⟩, g, ok, by omega, e3, e4, e5⟩
    · exact absurd (q1.symm.trans w1) (by decide)
    · exact absurd (q1.symm.trans w1) (by decide)
    · have hno : ∀ n L, tn_wk (tn_E cnt fp sp mo on) n b a L → 0 ≤ L + c.toInt := by
        rcases h9 with ⟨_, _, _, _, _, q, _⟩ | ⟨q, _⟩
        · exact absurd (q.symm.trans q1) (by decide)
        · exact q
      refine ⟨q2.trans w2.symm, ⟨rfl, rfl, rfl, rfl, rfl, rfl, rfl⟩, ⟨by omega, fun k hk => ?_⟩, tn_ok_mono tl_E_add (tn_add_ok ok hno), ?_, e3, e4, e5⟩
      · by_cases hkc : k = cnt
        · subst hkc
          simp only [va_up, vp_updL, if_true]
          exact ⟨h2, h3, h7, h8⟩
        · simp only [va_up, vp_updL, hkc, if_false]
          exact g.2 k (by omega)
      · rw [tn_cn, tn_cn_far (Nat.le_refl _)]
        simp [va_up]; omega
  · exact absurd h8 (k1 h1 a b h2 h3 h4 h5 h6 h7)
  · exact absurd k8 (h1 k1 a' b' k2 k3 k4 k5 k6 k7)
  · subst h3; subst h4; subst h5; subst h6; subst h7; subst h8; subst h9; subst h10
    subst k3; subst k4; subst k5; subst k6; subst k7; subst k8; subst k9; subst k10
    exact ⟨h2.trans k2.symm, ⟨rfl, rfl, rfl, rfl, rfl, rfl, rfl⟩, g, ok, by omega, hrs, hrow, hrl⟩
theorem tl_off (hi : tl_inv cnt onc fp sp mo on rp rs rl cnt fp sp mo on rw rs rl) {x r1 r2 : Int32} {onc1 : Nat} {on1 on2 : Nat → Bool} (h : sp_off cnt on x r1 on1) (ho : onc1 = tn_cn on1 cnt) (k : sp_off cnt on x r2 on2) : r1 = r2 ∧ tl_inv cnt onc1 fp sp mo on1 rp rs rl cnt fp sp mo on2 rw rs rl := by
  obtain ⟨-, g, ok, hoc, hrs, hrow, hrl⟩ := hi
  have hg := g.1
  rcases h with ⟨a, h1, h2, h3, h4, h5⟩ | ⟨h1, h2, h3⟩ <;> rcases k with ⟨a', k1, k2, k3, k4, k5⟩ | ⟨k1, k2, k3⟩
  · have ea := (nI_eq (by omega) (by omega)).mp (h2.symm.trans k2)
    subst ea; subst h5; subst k5
    exact ⟨h4.trans k4.symm, ⟨rfl, rfl, rfl, rfl, rfl, rfl, rfl⟩, g, tn_ok_mono tl_E_off ok, ho, hrs, hrow, hrl⟩
  · exact absurd (h3.symm.trans (k1 a h1 h2)) (by decide)
  · exact absurd (k3.symm.trans (h1 a' k1 k2)) (by decide)
  · subst h3; subst k3
    exact ⟨h2.trans k2.symm, ⟨rfl, rfl, rfl, rfl, rfl, rfl, rfl⟩, g, ok, ho, hrs, hrow, hrl⟩
theorem tl_on (hi : tl_inv cnt onc fp sp mo on rp rs rl cnt fp sp mo on rw rs rl) {x r1 r2 : Int32} {onc1 : Nat} {on1 on2 : Nat → Bool} {rp1 rw2 : Nat → Nat} {rs1 rs2 : Nat} {rl1 rl2 : Int64} (h : sp_on cnt fp sp mo on x r1 rp rs rl on1 rp1 rs1 rl1) (ho : onc1 = tn_cn on1 cnt) (k : sp_on cnt fp sp mo on x r2 rw rs rl on2 rw2 rs2 rl2) : r1 = r2 ∧ tl_inv cnt onc1 fp sp mo on1 rp1 rs1 rl1 cnt fp sp mo on2 rw2 rs2 rl2 := by
  obtain ⟨-, g, ok, hoc, hrs, hrow, hrl⟩ := hi
  have hg := g.1
  rcases h with ⟨a, z, h1, h2, h3, h9, h10⟩ | ⟨h1, h2, h3, h4, h5, h6⟩ <;> rcases k with ⟨a', z', k1, k2, k3, k9, k10⟩ | ⟨k1, k2, k3, k4, k5, k6⟩
  · have ea := (nI_eq (by omega) (by omega)).mp (h2.symm.trans k2)
    subst ea
    obtain ⟨ez, e1, e2, e3, e4, e5⟩ := tl_ref h9 k9 hrs hrow hrl
    subst ez; subst e1; subst e2
    rcases h10 with ⟨q1, q2, rfl⟩ | ⟨q1, q2, rfl⟩ <;> rcases k10 with ⟨w1, w2, rfl⟩ | ⟨w1, w2, rfl⟩
    · exact ⟨q2.trans w2.symm, ⟨rfl, rfl, rfl, rfl, rfl, rfl, rfl⟩, g, ok, ho, e3, e4, e5⟩
    · exact absurd (q1.symm.trans w1) (by decide)
    · exact absurd (q1.symm.trans w1) (by decide)
    · have hno : ∀ n L, tn_wk (tn_E cnt fp sp mo on) n (sp a) (fp a) L → 0 ≤ L + (mo a).toInt := by
        rcases h9 with ⟨_, _, _, _, _, q, _⟩ | ⟨q, _⟩
        · exact absurd (q.symm.trans q1) (by decide)
        · exact q
      exact ⟨q2.trans w2.symm, ⟨rfl, rfl, rfl, rfl, rfl, rfl, rfl⟩, g, tn_ok_mono tl_E_on (tn_add_ok ok hno), ho, e3, e4, e5⟩
  · exact absurd (h3.symm.trans (k1 a h1 h2)) (by decide)
  · exact absurd (k3.symm.trans (h1 a' k1 k2)) (by decide)
  · subst h3; subst h4; subst h5; subst h6; subst k3; subst k4; subst k5; subst k6
    exact ⟨h2.trans k2.symm, ⟨rfl, rfl, rfl, rfl, rfl, rfl, rfl⟩, g, ok, ho, hrs, hrow, hrl⟩
theorem tl_steps {E : Nat → Nat → Int → Prop} {x y r1 r2 : Int32} (h : sp_steps E x y r1) (k : sp_steps E x y r2) : r1 = r2 := by
  rcases h with ⟨a, b, L, n, h1, h2, h3, h4, h5, h6⟩ | ⟨h1, h2⟩ <;> rcases k with ⟨a', b', L', n', k1, k2, k3, k4, k5, k6⟩ | ⟨k1, k2⟩
  · have ea := (nI_eq (by omega) (by omega)).mp (h3.symm.trans k3)
    have eb := (nI_eq (by omega) (by omega)).mp (h4.symm.trans k4)
    subst ea; subst eb
    rw [h6, k6, (tn_best_eq h5 k5).2]
  · exact absurd h5.1 (k1 a b h1 h2 h3 h4 _ _)
  · exact absurd k5.1 (h1 a' b' k1 k2 k3 k4 _ _)
  · rw [h2, k2]
theorem tl_path (hi : tl_inv cnt onc fp sp mo on rp rs rl cnt fp sp mo on rw rs rl) {x y r1 r2 : Int32} {rp1 rw2 : Nat → Nat} {rs1 rs2 : Nat} {rl1 rl2 : Int64} (h : sp_path (tn_E cnt fp sp mo on) x y r1 rp rs rl rp1 rs1 rl1) (k : sp_path (tn_E cnt fp sp mo on) x y r2 rw rs rl rw2 rs2 rl2) : r1 = r2 ∧ tl_inv cnt onc fp sp mo on rp1 rs1 rl1 cnt fp sp mo on rw2 rs2 rl2 := by
  obtain ⟨-, g, ok, hoc, hrs, hrow, hrl⟩ := hi
  rcases h with ⟨a, b, L, n, h1, h2, h3, h4, h5, h6, h7, h8, h9, h10⟩ | ⟨h1, h2, h3, h4, h5⟩ <;> rcases k with ⟨a', b', L', n', k1, k2, k3, k4, k5, k6, k7, k8, k9, k10⟩ | ⟨k1, k2, k3, k4, k5⟩
  · have ea := (nI_eq (by omega) (by omega)).mp (h3.symm.trans k3)
    have eb := (nI_eq (by omega) (by omega)).mp (h4.symm.trans k4)
    subst ea; subst eb
    obtain ⟨e1, e2⟩ := tn_best_eq h5 k5
    subst e1; subst e2
    refine ⟨h7.trans k7.symm, ⟨rfl, rfl, rfl, rfl, rfl, by omega, Int64.toInt_inj.mp (k10.trans h10.symm)⟩, g, ok, hoc, by omega, fun z hz => ?_, fun q => absurd q (by omega)⟩
    have := tn_bp_eq h9 k9 z (by omega)
    rw [Nat.zero_add] at this; exact this
  · exact absurd h5.1 (k1 a b h1 h2 h3 h4 _ _)
  · exact absurd k5.1 (h1 a' b' k1 k2 k3 k4 _ _)
  · subst h3; subst h4; subst h5; subst k3; subst k4; subst k5
    exact ⟨h2.trans k2.symm, ⟨rfl, rfl, rfl, rfl, rfl, rfl, rfl⟩, g, ok, hoc, hrs, hrow, hrl⟩
theorem tl_rowAt (hi : tl_inv cnt onc fp sp mo on rp rs rl cnt fp sp mo on rw rs rl) {x r1 r2 : Int32} (h : sp_rowAt rp rs x r1) (k : sp_rowAt rw rs x r2) : r1 = r2 := by
  obtain ⟨-, g, ok, hoc, hrs, hrow, hrl⟩ := hi
  rcases h with ⟨a, h1, h2, h3⟩ | ⟨h1, h2⟩ <;> rcases k with ⟨a', k1, k2, k3⟩ | ⟨k1, k2⟩
  · have ea := (nI_eq (by omega) (by omega)).mp (h2.symm.trans k2)
    subst ea
    rw [h3, k3, hrow a h1]
  · exact absurd h2 (k1 a h1)
  · exact absurd k2 (h1 a' k1)
  · rw [h2, k2]
theorem tl_length (hi : tl_inv cnt onc fp sp mo on rp rs rl cnt fp sp mo on rw rs rl) {r1 r2 : Int64} (h : r1 = rl) (k : (rs = 0 ∧ r2 = 0) ∨ (rs ≠ 0 ∧ r2 = rl)) : r1 = r2 := by
  rcases k with ⟨k1, k2⟩ | ⟨-, k2⟩
  · rw [h, k2]; exact hi.2.2.2.2.2.2 k1
  · rw [h, k2]
theorem tl_slack (hc : cnt ≤ 120) {x : Int32} {r1 r2 : Int64} (h : sp_slack cnt fp sp mo on x r1) (k : sp_slack cnt fp sp mo on x r2) : r1 = r2 := by
  rcases h with ⟨a, L, n, h1, h2, h3, h4, h5⟩ | ⟨h1, h2⟩ <;> rcases k with ⟨a', L', n', k1, k2, k3, k4, k5⟩ | ⟨k1, k2⟩
  · have ea := (nI_eq (by omega) (by omega)).mp (h2.symm.trans k2)
    subst ea
    have e := (tn_best_eq h4 k4).1
    exact Int64.toInt_inj.mp (by rw [h5, k5, e])
  · exact absurd (h3.symm.trans (k1 a h1 h2)) (by decide)
  · exact absurd (k3.symm.trans (h1 a' k1 k2)) (by decide)
  · rw [h2, k2]
end TLV
theorem tl_bound1 {E : Nat → Nat → Int → Prop} {a b : Nat} {r1 r2 : Int64} (h : sp_bound E a b r1) (k : sp_bound E a b r2) : r1 = r2 := by
  rcases h with ⟨L, n, h1, h2⟩ | ⟨h1, h2⟩ <;> rcases k with ⟨L', n', k1, k2⟩ | ⟨k1, k2⟩
  · exact Int64.toInt_inj.mp (by rw [h2, k2, (tn_best_eq h1 k1).1])
  · exact absurd h1.1 (k1 _ _)
  · exact absurd k1.1 (h1 _ _)
  · rw [h2, k2]
theorem tl_earl1 {E : Nat → Nat → Int → Prop} {a : Nat} {r1 r2 : Int64} (h : sp_earl E a r1) (k : sp_earl E a r2) : r1 = r2 := by
  rcases h with ⟨L, n, h1, h2⟩ | ⟨h1, h2⟩ <;> rcases k with ⟨L', n', k1, k2⟩ | ⟨k1, k2⟩
  · exact Int64.toInt_inj.mp (by rw [h2, k2, (tn_best_eq h1 k1).1])
  · exact absurd h1.1 (k1 _ _)
  · exact absurd k1.1 (h1 _ _)
  · rw [h2, k2]
/-- bound: class by the law's helper, and reference -/
theorem tl_bound {E : Nat → Nat → Int → Prop} {x y : Int32} {kk : Int32} {o r : Int64} {th : Nat} (h : (∃ a b, a < 20 ∧ b < 20 ∧ x = nI a ∧ y = nI b ∧ kk = nI 0 ∧ sp_bound E a b o) ∨ ((∀ a b, a < 20 → b < 20 → ¬ (x = nI a ∧ y = nI b)) ∧ kk = nI 1)) (k : (∃ a b, a < 20 ∧ b < 20 ∧ x = nI a ∧ y = nI b ∧ th = 0 ∧ sp_bound E a b r) ∨ ((∀ a b, a < 20 → b < 20 → ¬ (x = nI a ∧ y = nI b)) ∧ th = 1)) : nI th = kk ∧ (kk = 0 → o = r) := by
  rcases h with ⟨a, b, h1, h2, h3, h4, h5, h6⟩ | ⟨h1, h2⟩ <;> rcases k with ⟨a', b', k1, k2, k3, k4, k5, k6⟩ | ⟨k1, k2⟩
  · have ea := (nI_eq (by omega) (by omega)).mp (h3.symm.trans k3)
    have eb := (nI_eq (by omega) (by omega)).mp (h4.symm.trans k4)
    subst ea; subst eb
    exact ⟨by rw [h5, k5], fun _ => tl_bound1 h6 k6⟩
  · exact absurd ⟨h3, h4⟩ (k1 a b h1 h2)
  · exact absurd ⟨k3, k4⟩ (h1 a' b' k1 k2)
  · exact ⟨by rw [h2, k2], fun q => absurd (h2.symm.trans q) (by decide)⟩
theorem tl_earl {E : Nat → Nat → Int → Prop} {x : Int32} {kk : Int32} {o r : Int64} {th : Nat} (h : (∃ a, a < 20 ∧ x = nI a ∧ kk = nI 0 ∧ sp_earl E a o) ∨ ((∀ a, a < 20 → ¬ x = nI a) ∧ kk = nI 1)) (k : (∃ a, a < 20 ∧ x = nI a ∧ th = 0 ∧ sp_earl E a r) ∨ ((∀ a, a < 20 → ¬ x = nI a) ∧ th = 1)) : nI th = kk ∧ (kk = 0 → o = r) := by
  rcases h with ⟨a, h1, h3, h5, h6⟩ | ⟨h1, h2⟩ <;> rcases k with ⟨a', k1, k3, k5, k6⟩ | ⟨k1, k2⟩
  · have ea := (nI_eq (by omega) (by omega)).mp (h3.symm.trans k3)
    subst ea
    exact ⟨by rw [h5, k5], fun _ => tl_earl1 h6 k6⟩
  · exact absurd h3 (k1 a h1)
  · exact absurd k3 (h1 a' k1)
  · exact ⟨by rw [h2, k2], fun q => absurd (h2.symm.trans q) (by decide)⟩
theorem tl_inv_0 : tl_inv 0 0 (fun _ => 0) (fun _ => 0) (fun _ => 0) (fun _ => false) (fun _ => 0) 0 0 0 (fun _ => 0) (fun _ => 0) (fun _ => 0) (fun _ => false) (fun _ => 0) 0 0 := by
  refine ⟨⟨rfl, rfl, rfl, rfl, rfl, rfl, rfl⟩, ⟨by omega, fun k hk => absurd hk (by omega)⟩, ?_, rfl, by omega, fun _ _ => rfl, fun _ => rfl⟩
  intro n i L w
  cases n with
  | zero => rw [w.2]; exact Int.le_refl 0
  | succ n =>
    obtain ⟨q, c, ⟨k, hk, _⟩, _⟩ := w
    exact absurd hk (by omega)
theorem tl_rot {A : Nat → Prop} {a b c : va_W} (h : va_D A (a ++ (b ++ c))) : va_D A ((a ++ c) ++ b) := by
  have hbc := tn_D_swap (tn_D_r h)
  have h2 : va_D A (a ++ (c ++ b)) := (tn_D_l h).app hbc (fun i j p q hi hj he => by
    rcases tn_app_get hj with ⟨-, hj⟩ | ⟨-, hj⟩
    · exact tn_D_x h i (b.length + (j)) p q hi (by rw [List.getElem?_append_right (by omega), show b.length + j - b.length = j by omega]; exact hj) he
    · exact tn_D_x h i (j - c.length) p q hi (by rw [List.getElem?_append_left (List.getElem?_eq_some_iff.mp hj).1]; exact hj) he)
  rw [List.append_assoc]; exact h2
theorem tl_rot' {A : Nat → Prop} {a b c : va_W} (h : va_D A ((a ++ c) ++ b)) : va_D A (a ++ (b ++ c)) := by
  rw [List.append_assoc] at h
  have := tl_rot h
  rw [List.append_assoc] at this; exact this
