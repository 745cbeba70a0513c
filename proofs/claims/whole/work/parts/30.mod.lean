/-! THE REFERENCE'S OWN WAY: the least length of each number of steps -/
theorem tn_isub2 {p : Program} {l : Launch} {e : Env} {R : Room} {s : State} {m : MethodId} {args : Array Value} {below : List Frame} {meth : Method} {c : Code} {H : Heap} {locs : List Loc} {cells slots : Nat} {Q : State → Prop} {cc : ByteArray} {pc : Nat} {ls : Array Slot} {rest : List Value} (hx : p.tables.exec = Jvm.exec) (hb : c.code = cc) {a b d : Nat} (h : a = d + b) (hdg : decode cc pc = .ok (.isub, 1))
    (k : W p l e R s m args below meth c H locs cells slots Q (F0 m (pc + 1) ls (.int (nI d) :: rest))) : W p l e R s m args below meth c H locs cells slots Q (F0 m pc ls (.int (nI b) :: .int (nI a) :: rest)) :=
  lv_isub hx hb hdg (by rw [pk_sub (by omega), show a - b = d by omega]; exact k)
/-- level s of the table is right: the least length of the walks of s steps to t -/
def tm_rw (E : Nat → Nat → Int → Prop) (t s : Nat) (le : Nat → Int64) : Prop := ∀ v, v < 20 → (le (20 * s + v) = tn_MX ∧ ∀ L, ¬ tn_wk E s v t L) ∨ (le (20 * s + v) ≠ tn_MX ∧ tn_wk E s v t (le (20 * s + v)).toInt ∧ ∀ L, tn_wk E s v t L → (le (20 * s + v)).toInt ≤ L)
theorem tm_rw_keep {E : Nat → Nat → Int → Prop} {t s : Nat} {le le' : Nat → Int64} (h : tm_rw E t s le) (hk : ∀ v, v < 20 → le' (20 * s + v) = le (20 * s + v)) : tm_rw E t s le' := by
  intro v hv
  rw [hk v hv]; exact h v hv
/-- walks of s + 1 steps whose first constraint is one of the first k -/
def tm_pw (E F : Nat → Nat → Int → Prop) (t s v : Nat) (L : Int) : Prop := ∃ (q : Nat) (c : Int), F v q c ∧ tn_wk E s q t (L - c)
def tm_rk (E F : Nat → Nat → Int → Prop) (t s : Nat) (le : Nat → Int64) : Prop := ∀ v, v < 20 → (le (20 * (s + 1) + v) = tn_MX ∧ ∀ L, ¬ tm_pw E F t s v L) ∨ (le (20 * (s + 1) + v) ≠ tn_MX ∧ tm_pw E F t s v (le (20 * (s + 1) + v)).toInt ∧ ∀ L, tm_pw E F t s v L → (le (20 * (s + 1) + v)).toInt ≤ L)
theorem tm_rk_done {E : Nat → Nat → Int → Prop} {t s : Nat} {le : Nat → Int64} (h : tm_rk E E t s le) : tm_rw E t (s + 1) le := fun v hv => h v hv
theorem tm_rk_0 {E : Nat → Nat → Int → Prop} {fp sp : Nat → Nat} {mo : Nat → Int64} {on : Nat → Bool} {t s : Nat} {le : Nat → Int64} (h : ∀ v, v < 20 → le (20 * (s + 1) + v) = tn_MX) : tm_rk E (tn_E 0 fp sp mo on) t s le := by
  intro v hv
  refine Or.inl ⟨h v hv, ?_⟩
  rintro L ⟨q, c, ⟨k, hk, -⟩, -⟩
  exact absurd hk (by omega)
theorem tm_E_s {k : Nat} {fp sp : Nat → Nat} {mo : Nat → Int64} {on : Nat → Bool} {i j : Nat} {c : Int} : tn_E (k + 1) fp sp mo on i j c ↔ tn_E k fp sp mo on i j c ∨ (on k = true ∧ fp k = i ∧ sp k = j ∧ (mo k).toInt = c) := by
  constructor
  · rintro ⟨z, hz, h1, h2, h3, h4⟩
    rcases Nat.lt_or_ge z k with h | h
    · exact Or.inl ⟨z, h, h1, h2, h3, h4⟩
    · have : z = k := by omega
      subst this
      exact Or.inr ⟨h1, h2, h3, h4⟩
  · rintro (⟨z, hz, h⟩ | h)
    · exact ⟨z, by omega, h⟩
    · exact ⟨k, by omega, h⟩
/-- a constraint that brings nothing -/
theorem tm_rk_no {E : Nat → Nat → Int → Prop} {k : Nat} {fp sp : Nat → Nat} {mo : Nat → Int64} {on : Nat → Bool} {t s : Nat} {le : Nat → Int64} (h : tm_rk E (tn_E k fp sp mo on) t s le) (hn : ∀ L, on k = true → tn_wk E s (sp k) t (L - (mo k).toInt) → le (20 * (s + 1) + fp k) ≠ tn_MX ∧ (le (20 * (s + 1) + fp k)).toInt ≤ L) : tm_rk E (tn_E (k + 1) fp sp mo on) t s le := by
  intro v hv
  rcases h v hv with ⟨h1, h2⟩ | ⟨h1, ⟨q, c, hE, w⟩, h3⟩
  · refine Or.inl ⟨h1, ?_⟩
    rintro L ⟨q, c, hE, w⟩
    rcases tm_E_s.mp hE with hE | ⟨o, rfl, rfl, rfl⟩
    · exact h2 L ⟨q, c, hE, w⟩
    · exact (hn L o w).1 h1
  · refine Or.inr ⟨h1, ⟨q, c, tm_E_s.mpr (Or.inl hE), w⟩, ?_⟩
    rintro L ⟨q, c, hE, w⟩
    rcases tm_E_s.mp hE with hE | ⟨o, rfl, rfl, rfl⟩
    · exact h3 L ⟨q, c, hE, w⟩
    · exact (hn L o w).2
theorem tm_skip_off {E : Nat → Nat → Int → Prop} {k : Nat} {fp sp : Nat → Nat} {mo : Nat → Int64} {on : Nat → Bool} {t s : Nat} {le : Nat → Int64} (h : tm_rk E (tn_E k fp sp mo on) t s le) (ho : on k = false) : tm_rk E (tn_E (k + 1) fp sp mo on) t s le :=
  tm_rk_no h (fun L q => by rw [ho] at q; exact absurd q (by decide))
theorem tm_skip_far {E : Nat → Nat → Int → Prop} {k : Nat} {fp sp : Nat → Nat} {mo : Nat → Int64} {on : Nat → Bool} {t s : Nat} {le : Nat → Int64} (h : tm_rk E (tn_E k fp sp mo on) t s le) (hl : tm_rw E t s le) (hs : sp k < 20) (hm : le (20 * s + sp k) = tn_MX) : tm_rk E (tn_E (k + 1) fp sp mo on) t s le :=
  tm_rk_no h (fun L _ w => by
    rcases hl (sp k) hs with ⟨-, q⟩ | ⟨q, -⟩
    · exact absurd w (q _)
    · exact absurd hm q)
/-- the sum that is compared -/
theorem tm_sum {cnt : Nat} {fp sp : Nat → Nat} {mo : Nat → Int64} {on : Nat → Bool} {t s k : Nat} {le : Nat → Int64} (g : tn_good cnt fp sp mo) (hk : k < cnt) (hs20 : s ≤ 20) (hl : tm_rw (tn_E cnt fp sp mo on) t s le) (hm : le (20 * s + sp k) ≠ tn_MX) :
    (mo k + le (20 * s + sp k)).toInt = (mo k).toInt + (le (20 * s + sp k)).toInt ∧ mo k + le (20 * s + sp k) ≠ tn_MX ∧ tn_wk (tn_E cnt fp sp mo on) s (sp k) t (le (20 * s + sp k)).toInt ∧ ∀ L, tn_wk (tn_E cnt fp sp mo on) s (sp k) t L → (le (20 * s + sp k)).toInt ≤ L := by
  have hg := g.2 k hk
  rcases hl (sp k) hg.2.1 with ⟨q, -⟩ | ⟨-, w, q⟩
  · exact absurd q hm
  · have bd := tn_wk_bd (tn_E_bd g) s w
    have e := tn_addI (a := mo k) (b := le (20 * s + sp k)) (by omega) (by omega) (by omega) (by omega)
    exact ⟨e, tn_neMX (by omega), w, q⟩
theorem tm_skip_ge {cnt : Nat} {fp sp : Nat → Nat} {mo : Nat → Int64} {on : Nat → Bool} {t s k : Nat} {le : Nat → Int64} (g : tn_good cnt fp sp mo) (hk : k < cnt) (hs20 : s ≤ 20) (hl : tm_rw (tn_E cnt fp sp mo on) t s le) (h : tm_rk (tn_E cnt fp sp mo on) (tn_E k fp sp mo on) t s le) (hm : le (20 * s + sp k) ≠ tn_MX) (hge : le (20 * (s + 1) + fp k) ≤ mo k + le (20 * s + sp k)) : tm_rk (tn_E cnt fp sp mo on) (tn_E (k + 1) fp sp mo on) t s le := by
  obtain ⟨e, ne, w, q⟩ := tm_sum g hk hs20 hl hm
  have hge' := Int64.le_iff_toInt_le.mp hge
  have bd := tn_wk_bd (tn_E_bd g) s w
  have hg := g.2 k hk
  refine tm_rk_no h (fun L _ w2 => ⟨fun hx => ?_, ?_⟩)
  · rw [hx, tn_MXI, e] at hge'; omega
  · have := q _ w2; omega
theorem tm_take {cnt : Nat} {fp sp : Nat → Nat} {mo : Nat → Int64} {on : Nat → Bool} {t s k : Nat} {le : Nat → Int64} (g : tn_good cnt fp sp mo) (hk : k < cnt) (ho : on k = true) (hs20 : s ≤ 20) (hl : tm_rw (tn_E cnt fp sp mo on) t s le) (h : tm_rk (tn_E cnt fp sp mo on) (tn_E k fp sp mo on) t s le) (hm : le (20 * s + sp k) ≠ tn_MX) (hlt : ¬ le (20 * (s + 1) + fp k) ≤ mo k + le (20 * s + sp k)) : tm_rk (tn_E cnt fp sp mo on) (tn_E (k + 1) fp sp mo on) t s (vp_updL le (20 * (s + 1) + fp k) (mo k + le (20 * s + sp k))) := by
  obtain ⟨e, ne, w, q⟩ := tm_sum g hk hs20 hl hm
  rw [Int64.le_iff_toInt_le] at hlt
  intro v hv
  by_cases hvk : v = fp k
  · subst hvk
    have ev : vp_updL le (20 * (s + 1) + fp k) (mo k + le (20 * s + sp k)) (20 * (s + 1) + fp k) = mo k + le (20 * s + sp k) := pk_uLs
    rw [ev]
    refine Or.inr ⟨ne, ⟨sp k, (mo k).toInt, tm_E_s.mpr (Or.inr ⟨ho, rfl, rfl, rfl⟩), by rw [e, show (mo k).toInt + (le (20 * s + sp k)).toInt - (mo k).toInt = (le (20 * s + sp k)).toInt by omega]; exact w⟩, ?_⟩
    rintro L ⟨q2, c, hE, w2⟩
    rcases tm_E_s.mp hE with hE | ⟨o, -, rfl, rfl⟩
    · rcases h (fp k) hv with ⟨-, h2⟩ | ⟨-, -, h3⟩
      · exact absurd ⟨q2, c, hE, w2⟩ (h2 L)
      · have := h3 L ⟨q2, c, hE, w2⟩; omega
    · have := q _ w2; omega
  · have ev : vp_updL le (20 * (s + 1) + fp k) (mo k + le (20 * s + sp k)) (20 * (s + 1) + v) = le (20 * (s + 1) + v) := pk_uLn (by omega)
    rw [ev]
    rcases h v hv with ⟨h1, h2⟩ | ⟨h1, ⟨q2, c, hE, w2⟩, h3⟩
    · refine Or.inl ⟨h1, ?_⟩
      rintro L ⟨q2, c, hE, w2⟩
      rcases tm_E_s.mp hE with hE | ⟨o, e1, -, -⟩
      · exact h2 L ⟨q2, c, hE, w2⟩
      · exact hvk e1.symm
    · refine Or.inr ⟨h1, ⟨q2, c, tm_E_s.mpr (Or.inl hE), w2⟩, ?_⟩
      rintro L ⟨q3, c3, hE, w3⟩
      rcases tm_E_s.mp hE with hE | ⟨o, e1, -, -⟩
      · exact h3 L ⟨q3, c3, hE, w3⟩
      · exact absurd e1.symm hvk
/-- the table is right as far as level 20, and what was read off it -/
def tm_lv (E : Nat → Nat → Int → Prop) (t : Nat) (le : Nat → Int64) : Prop := ∀ s, s ≤ 20 → tm_rw E t s le
def tm_sc (le : Nat → Int64) (i s : Nat) (bl : Int64) (bs : Int32) : Prop := (∀ z, z < s → bl ≤ le (20 * z + i)) ∧ ((bs = -1 ∧ bl = tn_MX) ∨ ∃ z, z < s ∧ bs = nI z ∧ bl = le (20 * z + i) ∧ bl ≠ tn_MX ∧ ∀ y, y < z → ¬ le (20 * y + i) ≤ bl)
theorem tm_MXle (a : Int64) : a ≤ tn_MX := by
  rw [Int64.le_iff_toInt_le, tn_MXI]
  have := Int64.toInt_lt a
  omega
theorem tm_sc_0 {le : Nat → Int64} {i : Nat} : tm_sc le i 0 tn_MX (-1) := ⟨fun z h => absurd h (by omega), Or.inl ⟨rfl, rfl⟩⟩
theorem tm_sc_take {le : Nat → Int64} {i s : Nat} {bl : Int64} {bs : Int32} (h : tm_sc le i s bl bs) (hlt : ¬ bl ≤ le (20 * s + i)) : tm_sc le i (s + 1) (le (20 * s + i)) (nI s) := by
  have hlt' : le (20 * s + i) < bl := Int64.not_le.mp hlt
  refine ⟨fun z hz => ?_, Or.inr ⟨s, by omega, rfl, rfl, fun q => hlt (by rw [q]; exact tm_MXle bl), fun y hy q => hlt (Int64.le_trans (h.1 y hy) q)⟩⟩
  rcases Nat.lt_or_ge z s with q | q
  · exact Int64.le_trans (Int64.le_of_lt hlt') (h.1 z q)
  · have : z = s := by omega
    subst this
    exact Int64.le_refl _
theorem tm_sc_skip {le : Nat → Int64} {i s : Nat} {bl : Int64} {bs : Int32} (h : tm_sc le i s bl bs) (hge : bl ≤ le (20 * s + i)) : tm_sc le i (s + 1) bl bs := by
  refine ⟨fun z hz => ?_, ?_⟩
  · rcases Nat.lt_or_ge z s with q | q
    · exact h.1 z q
    · have : z = s := by omega
      subst this
      exact hge
  · rcases h.2 with q | ⟨z, hz, q⟩
    · exact Or.inl q
    · exact Or.inr ⟨z, by omega, q⟩
/-- what 'best' answers and leaves -/
def tm_bok (E : Nat → Nat → Int → Prop) (i t : Nat) (le : Nat → Int64) (bl : Int64) (bs : Int32) (r : Int32) : Prop :=
  tm_lv E t le ∧ ((r = nI 0 ∧ bs = -1 ∧ bl = tn_MX ∧ ∀ n L, ¬ tn_wk E n i t L) ∨ (r = nI 1 ∧ ∃ n, n ≤ 19 ∧ bs = nI n ∧ bl = le (20 * n + i) ∧ bl ≠ tn_MX ∧ tn_best E i t bl.toInt n))
theorem tm_fin {E : Nat → Nat → Int → Prop} (hE : ∀ i j c, E i j c → i < 20 ∧ j < 20) (ok : tn_ok E) {i t : Nat} (hi : i < 20) {le : Nat → Int64} (hl : tm_lv E t le) {bl : Int64} {bs : Int32} (h : tm_sc le i 21 bl bs) :
    (bs = -1 ∧ bl = tn_MX ∧ ∀ n L, ¬ tn_wk E n i t L) ∨ (∃ n, n ≤ 19 ∧ bs = nI n ∧ bl = le (20 * n + i) ∧ bl ≠ tn_MX ∧ tn_best E i t bl.toInt n) := by
  have hle : ∀ n L, tn_wk E n i t L → ∃ n' L', n' ≤ 19 ∧ n' ≤ n ∧ L' ≤ L ∧ tn_wk E n' i t L' ∧ le (20 * n' + i) ≠ tn_MX ∧ (le (20 * n' + i)).toInt ≤ L' := by
    intro n L w
    obtain ⟨n', L', h1, h2, h3, h4⟩ := tn_cut hE ok n i t L w
    rcases hl n' (by omega) i hi with ⟨-, q⟩ | ⟨q1, -, q2⟩
    · exact absurd h4 (q _)
    · exact ⟨n', L', h1, h2, h3, h4, q1, q2 _ h4⟩
  rcases h.2 with ⟨h1, h2⟩ | ⟨z, hz, h1, h2, h3, h4⟩
  · refine Or.inl ⟨h1, h2, fun n L w => ?_⟩
    obtain ⟨n', L', k1, k2, k3, k4, k5, k6⟩ := hle n L w
    have := h.1 n' (by omega)
    rw [h2] at this
    exact k5 (Int64.le_antisymm (tm_MXle _) this)
  · rcases hl z (by omega) i hi with ⟨q, -⟩ | ⟨-, w, q⟩
    · exact absurd (h2.trans q) h3
    · have hb : tn_best E i t bl.toInt z := by
        refine ⟨by rw [h2]; exact w, fun m M w2 => ?_⟩
        obtain ⟨n', L', k1, k2, k3, k4, k5, k6⟩ := hle m M w2
        have a1 := Int64.le_iff_toInt_le.mp (h.1 n' (by omega))
        rcases Nat.lt_or_ge n' z with a2 | a2
        · have a3 := h4 n' a2
          rw [Int64.le_iff_toInt_le] at a3
          unfold tn_le; omega
        · unfold tn_le; omega
      exact Or.inr ⟨z, tn_best_small hE ok hb, h1, h2, h3, hb⟩
theorem tm_fin_pos {n : Nat} (hn : n ≤ 20) : ¬ nI n < 0 := nI_pos (by omega)
/-- one step's least length -/
def tm_st (k : Nat) (fp sp : Nat → Nat) (mo : Nat → Int64) (on : Nat → Bool) (v u : Nat) (r : Int64) : Prop := (r = tn_MX ∧ ∀ c, ¬ tn_E k fp sp mo on v u c) ∨ (r ≠ tn_MX ∧ tn_E k fp sp mo on v u r.toInt ∧ ∀ c, tn_E k fp sp mo on v u c → r.toInt ≤ c)
theorem tm_st_0 {fp sp : Nat → Nat} {mo : Nat → Int64} {on : Nat → Bool} {v u : Nat} : tm_st 0 fp sp mo on v u tn_MX := Or.inl ⟨rfl, fun c ⟨z, hz, _⟩ => absurd hz (by omega)⟩
theorem tm_st_skip {k : Nat} {fp sp : Nat → Nat} {mo : Nat → Int64} {on : Nat → Bool} {v u : Nat} {r : Int64} (h : tm_st k fp sp mo on v u r) (hn : on k = true → fp k = v → sp k = u → r ≠ tn_MX ∧ r.toInt ≤ (mo k).toInt) : tm_st (k + 1) fp sp mo on v u r := by
  rcases h with ⟨h1, h2⟩ | ⟨h1, h2, h3⟩
  · refine Or.inl ⟨h1, fun c hE => ?_⟩
    rcases tm_E_s.mp hE with hE | ⟨o, a, b, d⟩
    · exact h2 c hE
    · exact (hn o a b).1 h1
  · refine Or.inr ⟨h1, tm_E_s.mpr (Or.inl h2), fun c hE => ?_⟩
    rcases tm_E_s.mp hE with hE | ⟨o, a, b, d⟩
    · exact h3 c hE
    · rw [← d]; exact (hn o a b).2
theorem tm_st_take {k : Nat} {fp sp : Nat → Nat} {mo : Nat → Int64} {on : Nat → Bool} {v u : Nat} {r : Int64} (h : tm_st k fp sp mo on v u r) (ho : on k = true) (hf : fp k = v) (hs : sp k = u) (hm : mo k ≠ tn_MX) (hlt : ¬ r ≤ mo k) : tm_st (k + 1) fp sp mo on v u (mo k) := by
  rw [Int64.le_iff_toInt_le] at hlt
  refine Or.inr ⟨hm, tm_E_s.mpr (Or.inr ⟨ho, hf, hs, rfl⟩), fun c hE => ?_⟩
  rcases tm_E_s.mp hE with hE | ⟨o, a, b, d⟩
  · rcases h with ⟨-, h2⟩ | ⟨-, -, h3⟩
    · exact absurd hE (h2 c)
    · have := h3 c hE; omega
  · omega
theorem tm_st_eq {k : Nat} {fp sp : Nat → Nat} {mo : Nat → Int64} {on : Nat → Bool} {v u : Nat} {r r' : Int64} (h : tm_st k fp sp mo on v u r) (h' : tm_st k fp sp mo on v u r') : r = r' := by
  rcases h with ⟨h1, h2⟩ | ⟨h1, h2, h3⟩ <;> rcases h' with ⟨k1, k2⟩ | ⟨k1, k2, k3⟩
  · rw [h1, k1]
  · exact absurd k2 (h2 _)
  · exact absurd h2 (k2 _)
  · exact Int64.toInt_inj.mp (by have := h3 _ k2; have := k3 _ h2; omega)
/-- the test of 'walk' is the test for the next point -/
theorem tm_nx_iff {cnt : Nat} {fp sp : Nat → Nat} {mo : Nat → Int64} {on : Nat → Bool} (g : tn_good cnt fp sp mo) {t s v u : Nat} (hs : s + 1 ≤ 20) (hv : v < 20) (hu : u < 20) {le : Nat → Int64} (hl : tm_lv (tn_E cnt fp sp mo on) t le) (hm : le (20 * (s + 1) + v) ≠ tn_MX) (hb : tn_best (tn_E cnt fp sp mo on) v t (le (20 * (s + 1) + v)).toInt (s + 1)) {r : Int64} (hr : tm_st cnt fp sp mo on v u r) :
    tn_nx (tn_E cnt fp sp mo on) t v u ↔ (r ≠ tn_MX ∧ le (20 * s + u) ≠ tn_MX ∧ r + le (20 * s + u) = le (20 * (s + 1) + v)) := by
  have hlu := hl s (by omega) u hu
  have hbd : ∀ c, tn_E cnt fp sp mo on v u c → -1000000000000 ≤ c ∧ c ≤ 1000000000000 := fun c h => tn_E_bd g _ _ _ h
  constructor
  · rintro ⟨c, L, n, hE, h1, h2⟩
    obtain ⟨e1, e2⟩ := tn_best_eq h1 hb
    have e2 : n = s := by omega
    subst e2
    rcases hr with ⟨-, q⟩ | ⟨r1, r2, r3⟩
    · exact absurd hE (q c)
    · rcases hlu with ⟨-, q⟩ | ⟨q1, q2, q3⟩
      · exact absurd h2.1 (q L)
      · have a1 := q3 L h2.1
        have a2 := h2.2 _ _ q2
        have a3 := r3 c hE
        have a4 := hb.2 _ _ (tn_wk_cons r2 q2)
        have b1 := hbd _ r2
        have b2 := tn_wk_bd (tn_E_bd g) n q2
        refine ⟨r1, q1, Int64.toInt_inj.mp ?_⟩
        rw [tn_addI (by omega) (by omega) (by omega) (by omega)]
        unfold tn_le at a2 a4; omega
  · rintro ⟨r1, q1, e⟩
    rcases hr with ⟨q, -⟩ | ⟨-, r2, r3⟩
    · exact absurd q r1
    · rcases hlu with ⟨q, -⟩ | ⟨-, q2, q3⟩
      · exact absurd q q1
      · have b1 := hbd _ r2
        have b2 := tn_wk_bd (tn_E_bd g) s q2
        have e' : r.toInt + (le (20 * s + u)).toInt = (le (20 * (s + 1) + v)).toInt := by
          rw [← e, tn_addI (by omega) (by omega) (by omega) (by omega)]
        refine ⟨r.toInt, (le (20 * s + u)).toInt, s, r2, by rw [e']; exact hb, q2, fun m M w => ?_⟩
        have := hb.2 _ _ (tn_wk_cons r2 w)
        unfold tn_le at this ⊢; omega
/-- the next point has its level's entry, and is best there -/
theorem tm_nx_go {cnt : Nat} {fp sp : Nat → Nat} {mo : Nat → Int64} {on : Nat → Bool} {t s v u : Nat} (hs : s ≤ 20) (hu : u < 20) {le : Nat → Int64} (hl : tm_lv (tn_E cnt fp sp mo on) t le) {L : Int} (hb : tn_best (tn_E cnt fp sp mo on) v t L (s + 1)) (h : tn_nx (tn_E cnt fp sp mo on) t v u) : le (20 * s + u) ≠ tn_MX ∧ tn_best (tn_E cnt fp sp mo on) u t (le (20 * s + u)).toInt s := by
  obtain ⟨c, M, n, hE, h1, h2⟩ := h
  obtain ⟨e1, e2⟩ := tn_best_eq h1 hb
  have e2 : n = s := by omega
  subst e2
  rcases hl n hs u hu with ⟨-, q⟩ | ⟨q1, q2, q3⟩
  · exact absurd h2.1 (q M)
  · have a1 := q3 M h2.1
    have a2 := h2.2 _ _ q2
    have e3 : (le (20 * n + u)).toInt = M := by unfold tn_le at a2; omega
    exact ⟨q1, by rw [e3]; exact h2⟩
