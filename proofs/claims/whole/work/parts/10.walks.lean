/-! WALKS: pure. E p q c: an edge from p to q of length c. -/
/-- a walk of n steps from i to j, of length L -/
def tn_wk (E : Nat → Nat → Int → Prop) : Nat → Nat → Nat → Int → Prop
  | 0, i, j, L => i = j ∧ L = 0
  | n + 1, i, j, L => ∃ (q : Nat) (c : Int), E i q c ∧ tn_wk E n q j (L - c)
/-- no walk from a point to itself is below 0 -/
def tn_ok (E : Nat → Nat → Int → Prop) : Prop := ∀ (n i : Nat) (L : Int), tn_wk E n i i L → 0 ≤ L
def tn_le (L : Int) (n : Nat) (M : Int) (m : Nat) : Prop := L < M ∨ (L = M ∧ n ≤ m)
/-- L, n: length and steps of the best walk from i to j -/
def tn_best (E : Nat → Nat → Int → Prop) (i j : Nat) (L : Int) (n : Nat) : Prop := tn_wk E n i j L ∧ ∀ (m : Nat) (M : Int), tn_wk E m i j M → tn_le L n M m
theorem tn_le_trans {L M K : Int} {n m k : Nat} (h : tn_le L n M m) (g : tn_le M m K k) : tn_le L n K k := by
  unfold tn_le at *; omega
theorem tn_best_eq {E : Nat → Nat → Int → Prop} {i j : Nat} {L M : Int} {n m : Nat} (h : tn_best E i j L n) (g : tn_best E i j M m) : L = M ∧ n = m := by
  have a := h.2 _ _ g.1
  have b := g.2 _ _ h.1
  unfold tn_le at a b; omega
theorem tn_wk_cat {E : Nat → Nat → Int → Prop} : ∀ (n : Nat) {m i j k : Nat} {L M : Int}, tn_wk E n i j L → tn_wk E m j k M → tn_wk E (n + m) i k (L + M) := by
  intro n
  induction n with
  | zero =>
    intro m i j k L M h g
    obtain ⟨rfl, rfl⟩ := h
    rw [Nat.zero_add, Int.zero_add]; exact g
  | succ n ih =>
    intro m i j k L M h g
    obtain ⟨q, c, he, h⟩ := h
    rw [show n + 1 + m = (n + m) + 1 by omega]
    refine ⟨q, c, he, ?_⟩
    rw [show L + M - c = (L - c) + M by omega]
    exact ih h g
theorem tn_wk_mono {E F : Nat → Nat → Int → Prop} (hE : ∀ a b d, E a b d → F a b d) : ∀ (n : Nat) {i j : Nat} {L : Int}, tn_wk E n i j L → tn_wk F n i j L := by
  intro n
  induction n with
  | zero => intro i j L h; exact h
  | succ n ih =>
    intro i j L h
    obtain ⟨q, c, he, h⟩ := h
    exact ⟨q, c, hE _ _ _ he, ih h⟩
theorem tn_ok_mono {E F : Nat → Nat → Int → Prop} (hE : ∀ a b d, E a b d → F a b d) (h : tn_ok F) : tn_ok E := fun n i L w => h n i L (tn_wk_mono hE n w)
theorem tn_wk_one {E : Nat → Nat → Int → Prop} {i j : Nat} {c : Int} (h : E i j c) : tn_wk E 1 i j c := ⟨j, c, h, rfl, by omega⟩
theorem tn_wk_cons {E : Nat → Nat → Int → Prop} {n i q j : Nat} {c L : Int} (h : E i q c) (w : tn_wk E n q j L) : tn_wk E (n + 1) i j (c + L) := ⟨q, c, h, by rw [show c + L - c = L by omega]; exact w⟩
/-- the length is bounded by the steps -/
theorem tn_wk_bd {E : Nat → Nat → Int → Prop} {B : Int} (hE : ∀ i j c, E i j c → -B ≤ c ∧ c ≤ B) : ∀ (n : Nat) {i j : Nat} {L : Int}, tn_wk E n i j L → -(n * B) ≤ L ∧ L ≤ n * B := by
  intro n
  induction n with
  | zero => intro i j L h; obtain ⟨-, rfl⟩ := h; constructor <;> simp
  | succ n ih =>
    intro i j L h
    obtain ⟨q, c, he, h⟩ := h
    have h1 := ih h
    have h2 := hE _ _ _ he
    have h3 : ((n + 1 : Nat) : Int) * B = n * B + B := by
      rw [Int.natCast_add, Int.add_mul]; simp
    rw [h3]; omega
/-- pigeons -/
theorem tn_pig : ∀ (N : Nat) (f : Nat → Nat), (∀ a, a ≤ N → f a < N) → ∃ a b, a < b ∧ b ≤ N ∧ f a = f b := by
  intro N
  induction N with
  | zero => intro f h; exact absurd (h 0 (Nat.le_refl 0)) (by omega)
  | succ N ih =>
    intro f h
    rcases Classical.em (∃ a, a ≤ N ∧ f a = f (N + 1)) with ⟨a, h1, h2⟩ | hno
    · exact ⟨a, N + 1, by omega, Nat.le_refl _, h2⟩
    · have hno' : ∀ a, a ≤ N → f a ≠ f (N + 1) := fun a h1 h2 => hno ⟨a, h1, h2⟩
      obtain ⟨a, b, h1, h2, h3⟩ := ih (fun a => if f a = N then f (N + 1) else f a) (by
        intro a ha
        have h4 := h a (by omega)
        have h5 := h (N + 1) (Nat.le_refl _)
        have h6 := hno' a ha
        show (if f a = N then f (N + 1) else f a) < N
        split <;> omega)
      refine ⟨a, b, h1, by omega, ?_⟩
      have h4 := hno' a (by omega)
      have h5 := hno' b (by omega)
      try dsimp only at h3
      by_cases ha : f a = N <;> by_cases hb : f b = N <;> simp only [ha, hb, if_true, if_false] at h3 <;> omega
def tn_seg (c : Nat → Int) : Nat → Nat → Int
  | _, 0 => 0
  | a, n + 1 => c a + tn_seg c (a + 1) n
theorem tn_seg_add (c : Nat → Int) : ∀ (n a m : Nat), tn_seg c a (n + m) = tn_seg c a n + tn_seg c (a + n) m := by
  intro n
  induction n with
  | zero => intro a m; simp [tn_seg]
  | succ n ih =>
    intro a m
    rw [show n + 1 + m = (n + m) + 1 by omega]
    simp only [tn_seg]
    rw [ih, show a + 1 + n = a + (n + 1) by omega]; omega
theorem tn_seg_wk {E : Nat → Nat → Int → Prop} {f : Nat → Nat} {c : Nat → Int} : ∀ (n a : Nat), (∀ k, a ≤ k → k < a + n → E (f k) (f (k + 1)) (c k)) → tn_wk E n (f a) (f (a + n)) (tn_seg c a n) := by
  intro n
  induction n with
  | zero => intro a _; exact ⟨rfl, rfl⟩
  | succ n ih =>
    intro a h
    refine ⟨f (a + 1), c a, h a (Nat.le_refl a) (by omega), ?_⟩
    have h1 := ih (a + 1) (fun k h1 h2 => h k (by omega) (by omega))
    rw [show a + (n + 1) = a + 1 + n by omega]
    simp only [tn_seg]
    rw [show c a + tn_seg c (a + 1) n - c a = tn_seg c (a + 1) n by omega]
    exact h1
theorem tn_seg_shift (c c' : Nat → Int) : ∀ (n a b : Nat), (∀ k, k < n → c (a + k) = c' (b + k)) → tn_seg c a n = tn_seg c' b n := by
  intro n
  induction n with
  | zero => intro a b _; rfl
  | succ n ih =>
    intro a b h
    simp only [tn_seg]
    rw [ih (a + 1) (b + 1) (fun k hk => by rw [show a + 1 + k = a + (k + 1) by omega, show b + 1 + k = b + (k + 1) by omega]; exact h (k + 1) (by omega))]
    have := h 0 (by omega)
    simp only [Nat.add_zero] at this
    rw [this]
theorem tn_wk_fun {E : Nat → Nat → Int → Prop} : ∀ (n i j : Nat) (L : Int), tn_wk E n i j L → ∃ (f : Nat → Nat) (c : Nat → Int), f 0 = i ∧ f n = j ∧ (∀ a, a < n → E (f a) (f (a + 1)) (c a)) ∧ L = tn_seg c 0 n := by
  intro n
  induction n with
  | zero => intro i j L h; obtain ⟨rfl, rfl⟩ := h; exact ⟨fun _ => i, fun _ => 0, rfl, rfl, fun a ha => absurd ha (by omega), rfl⟩
  | succ n ih =>
    intro i j L h
    obtain ⟨q, d, he, h⟩ := h
    obtain ⟨f, c, h0, hn, hs, hL⟩ := ih q j _ h
    refine ⟨fun k => if k = 0 then i else f (k - 1), fun k => if k = 0 then d else c (k - 1), rfl, ?_, ?_, ?_⟩
    · simp [hn]
    · intro a ha
      rcases Nat.eq_zero_or_pos a with rfl | hp
      · simp [h0, he]
      · have h1 := hs (a - 1) (by omega)
        rw [show a - 1 + 1 = a by omega] at h1
        simp only [Nat.add_eq_zero_iff, Nat.succ_ne_self, and_false, if_false, Nat.add_sub_cancel]
        simpa [show ¬ a = 0 by omega] using h1
    · have h2 := tn_seg_shift (fun k => if k = 0 then d else c (k - 1)) c n 1 0 (fun k _ => by simp [show ¬ 1 + k = 0 by omega])
      show L = (if 0 = 0 then d else c (0 - 1)) + tn_seg (fun k => if k = 0 then d else c (k - 1)) (0 + 1) n
      rw [Nat.zero_add, h2, if_pos rfl]; omega
/-- what has no cycle below 0 has short walks as good -/
theorem tn_cut {E : Nat → Nat → Int → Prop} (hE : ∀ i j c, E i j c → i < 20 ∧ j < 20) (ok : tn_ok E) : ∀ (n i j : Nat) (L : Int), tn_wk E n i j L → ∃ (n' : Nat) (L' : Int), n' ≤ 19 ∧ n' ≤ n ∧ L' ≤ L ∧ tn_wk E n' i j L' := by
  intro n
  induction n using Nat.strongRecOn with
  | _ n ih =>
    intro i j L h
    rcases Nat.lt_or_ge n 20 with hn | hn
    · exact ⟨n, L, by omega, Nat.le_refl n, Int.le_refl L, h⟩
    · obtain ⟨f, c, h0, hnj, hs, hL⟩ := tn_wk_fun n i j L h
      have hf : ∀ a, a ≤ 20 → f a < 20 := by
        intro a ha
        rcases Nat.lt_or_ge a n with h1 | h1
        · exact (hE _ _ _ (hs a h1)).1
        · have h2 := (hE _ _ _ (hs (a - 1) (by omega))).2
          rw [show a - 1 + 1 = a by omega] at h2; exact h2
      obtain ⟨a, b, hab, hb, hfab⟩ := tn_pig 20 f hf
      have w1 := tn_seg_wk (E := E) (f := f) (c := c) a 0 (fun k _ h2 => hs k (by omega))
      have w2 := tn_seg_wk (E := E) (f := f) (c := c) (b - a) a (fun k _ h2 => hs k (by omega))
      have w3 := tn_seg_wk (E := E) (f := f) (c := c) (n - b) b (fun k _ h2 => hs k (by omega))
      rw [Nat.zero_add, h0] at w1
      rw [show a + (b - a) = b by omega, ← hfab] at w2
      rw [show b + (n - b) = n by omega, hnj, ← hfab] at w3
      have e1 := tn_seg_add c a 0 (n - a)
      have e2 := tn_seg_add c (b - a) a (n - b)
      rw [show a + (n - a) = n by omega, Nat.zero_add] at e1
      rw [show b - a + (n - b) = n - a by omega, show a + (b - a) = b by omega] at e2
      have hc := ok _ _ _ w2
      obtain ⟨n', L', k1, k2, k3, k4⟩ := ih (a + (n - b)) (by omega) i j _ (tn_wk_cat a w1 w3)
      exact ⟨n', L', k1, by omega, by omega, k4⟩
theorem tn_best_small {E : Nat → Nat → Int → Prop} (hE : ∀ i j c, E i j c → i < 20 ∧ j < 20) (ok : tn_ok E) {i j n : Nat} {L : Int} (h : tn_best E i j L n) : n ≤ 19 := by
  obtain ⟨n', L', k1, k2, k3, k4⟩ := tn_cut hE ok n i j L h.1
  have := h.2 _ _ k4
  unfold tn_le at this; omega
/-- one edge more -/
theorem tn_more {E : Nat → Nat → Int → Prop} {i j : Nat} {c : Int} (h : ∀ n L, tn_wk E n j i L → 0 ≤ L + c) :
    ∀ (n u v : Nat) (L : Int), tn_wk (fun a b d => E a b d ∨ (a = i ∧ b = j ∧ d = c)) n u v L →
      (∃ m M, tn_wk E m u v M ∧ M ≤ L) ∨ (∃ m1 M1 m2 M2, tn_wk E m1 u i M1 ∧ tn_wk E m2 j v M2 ∧ M1 + c + M2 ≤ L) := by
  intro n
  induction n with
  | zero => intro u v L w; exact Or.inl ⟨0, L, w, Int.le_refl L⟩
  | succ n ih =>
    intro u v L w
    obtain ⟨q, d, he, w⟩ := w
    rcases ih q v _ w with ⟨m, M, w1, h1⟩ | ⟨m1, M1, m2, M2, w1, w2, h1⟩
    · rcases he with he | ⟨rfl, rfl, rfl⟩
      · exact Or.inl ⟨m + 1, d + M, tn_wk_cons he w1, by omega⟩
      · exact Or.inr ⟨0, 0, m, M, ⟨rfl, rfl⟩, w1, by omega⟩
    · rcases he with he | ⟨rfl, rfl, rfl⟩
      · exact Or.inr ⟨m1 + 1, d + M1, m2, M2, tn_wk_cons he w1, w2, by omega⟩
      · have := h _ _ w1
        exact Or.inr ⟨0, 0, m2, M2, ⟨rfl, rfl⟩, w2, by omega⟩
theorem tn_add_ok {E : Nat → Nat → Int → Prop} {i j : Nat} {c : Int} (ok : tn_ok E) (h : ∀ n L, tn_wk E n j i L → 0 ≤ L + c) : tn_ok (fun a b d => E a b d ∨ (a = i ∧ b = j ∧ d = c)) := by
  intro n u L w
  rcases tn_more h n u u L w with ⟨m, M, w1, h1⟩ | ⟨m1, M1, m2, M2, w1, w2, h1⟩
  · have := ok _ _ _ w1; omega
  · have := h _ _ (tn_wk_cat m2 w2 w1); omega
