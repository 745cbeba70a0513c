/-! what a throw needs, and what it leaves; worlds side by side -/
def tn_NS : String := "java/util/NoSuchElementException"
def tn_fB : List Cond := [.declares ⟨"java/lang/RuntimeException", "<init>", "()V"⟩, .declares ⟨"java/lang/Exception", "<init>", "()V"⟩, .declares ⟨"java/lang/Throwable", "<init>", "()V"⟩, .castable "java/util/NoSuchElementException" "java/util/NoSuchElementException"]
theorem tn_fB_ok : ∀ w ∈ tn_fB, w.faceAtom = true ∧ w.onTables = true := by decide +kernel
def tn_face (U : State) : Prop := ∀ w ∈ tn_fB, va_Nw w U
theorem tn_face.moved {u U : State} (hvm : u.vm.Alike U.vm) (h : tn_face u) : tn_face U := fun w hw =>
  va_tabs (tn_fB_ok w hw).2 (rfl : (u.setVm U.vm).vm = U.vm) (Cond.faceAtom_setVm (args := #[]) hvm w (tn_fB_ok w hw).1 (h w hw))
theorem tn_face.use {s : State} {args : Array Value} (h : tn_face s) : ∀ w ∈ tn_fB, w.before args s = true := fun w hw => va_Nw.use (tn_fB_ok w hw).2 (h w hw)
abbrev tn_at0 : List Cond := vx_at0 RX0 56 "java/util/NoSuchElementException" ["java/lang/RuntimeException", "java/lang/Exception"]
theorem tn_at0_no : ∀ w ∈ tn_at0.filter (fun w => !goodWord w), w ∈ tn_fB := by decide +kernel
theorem tn_at0_good : ∀ w ∈ Cond.classLink RX0 54 "java/util/NoSuchElementException" :: Cond.initialized "java/util/NoSuchElementException" :: tn_at0, vx_ot w = true := by decide +kernel
abbrev tn_Zs (A : Nat → Prop) (U : State) (H : Heap) : Prop := vx_Zq Bundle.tN "UNASSIGNED_STACK" Bundle.steD A U H ∧ vx_Zq Bundle.tN "SUPPRESSED_SENTINEL" Bundle.listD A U H
abbrev tn_PreX (dC : Nat → ClassId) (dI : Nat → Nat → Nat) (tys : List (ClassId × FieldType)) (ws : va_W) (sz : Nat) (U : State) : Prop := tn_Pre dC dI tys ws sz U ∧ tn_face U ∧ tn_Zs (va_A ws sz) U U.heap
theorem tn_blindX {dC : Nat → ClassId} {dI : Nat → Nat → Nat} {tys : List (ClassId × FieldType)} {ws : va_W} {sz : Nat} {av : List Value} : FrameBlind (va_Pc av (tn_PreX dC dI tys ws sz)) := fun a U g mk q => by
  obtain ⟨q0, ⟨q1, qP, qK, qD⟩, qf, qU, qN⟩ := q
  exact ⟨q0, ⟨q1, qP, va_K.moved (u := U) (U := U.calling g mk a) (Vm.Alike.refl U.vm) qK, qD⟩, qf.moved (u := U) (U := U.calling g mk a) (Vm.Alike.refl U.vm), qU.moved (u := U) (U := U.calling g mk a) (Vm.Alike.refl U.vm), qN.moved (u := U) (U := U.calling g mk a) (Vm.Alike.refl U.vm)⟩
theorem tn_Zs_at {A : Nat → Prop} {s : State} {H : Heap} {locs : List Loc} (h : tn_Zs A s s.heap) (hS : va_S A s.heap H locs) {ws : va_W} (hF : ∀ q, va_A ws H.size q → A q) {U : State} (hU : U.heap = H) (hvm : s.vm.Alike U.vm) : tn_Zs (va_A ws H.size) U U.heap := by
  rw [hU]
  exact ⟨((h.1.kept hS.2.1).narrow hF).moved hvm, ((h.2.kept hS.2.1).narrow hF).moved hvm⟩
theorem tn_preX {dC : Nat → ClassId} {dI : Nat → Nat → Nat} {tys : List (ClassId × FieldType)} {ws : va_W} {s : State} {H : Heap} {A : Nat → Prop} {As : List Value} {b ci : Nat} {q : vw_C} {fs : List Value} {locs : List Loc} (hK : va_K (dC, dI) vwCl tys s) (hP : va_P (dC, dI) vwCl ws H) (hD : va_D (va_A ws H.size) ws) (hc : vwCl[ci]? = some q) (q0 : Nat) (he : ws[q0]? = some (b, .inr (ci, fs))) (hf : tn_face s) (hZ : tn_Zs A s s.heap) (hS : va_S A s.heap H locs) (hF : ∀ q, va_A ws H.size q → A q) : PreV s H q.1 b (va_Pc (.ref b :: As) (tn_PreX dC dI tys ws H.size)) As :=
  ⟨tn_blindX, va_recv hK hP (ci := ci) (q0 := q0) hc he, fun U hU hW => ⟨rfl, ⟨by rw [hU], by rw [hU]; exact hP, va_K.moved hW.alike hK, hD.weaken (fun _ _ _ _ => trivial)⟩, hf.moved hW.alike, tn_Zs_at hZ hS hF hU hW.alike⟩⟩
theorem tn_preXS {dC : Nat → ClassId} {dI : Nat → Nat → Nat} {tys : List (ClassId × FieldType)} {ws : va_W} {s : State} {H : Heap} {A : Nat → Prop} {As : List Value} {locs : List Loc} (hK : va_K (dC, dI) vwCl tys s) (hP : va_P (dC, dI) vwCl ws H) (hD : va_D (va_A ws H.size) ws) (hf : tn_face s) (hZ : tn_Zs A s s.heap) (hS : va_S A s.heap H locs) (hF : ∀ q, va_A ws H.size q → A q) : PreS s H (va_Pc As (tn_PreX dC dI tys ws H.size)) As :=
  ⟨tn_blindX, fun U hU hW => ⟨rfl, ⟨by rw [hU], by rw [hU]; exact hP, va_K.moved hW.alike hK, hD.weaken (fun _ _ _ _ => trivial)⟩, hf.moved hW.alike, tn_Zs_at hZ hS hF hU hW.alike⟩⟩
theorem tn_D_self {A : Nat → Prop} {ws : va_W} {sz : Nat} (h : va_D A ws) : va_D (va_A ws sz) ws := (h.weaken (fun _ _ _ _ => trivial) : va_D (fun _ => True) ws).self
/-- where a throw has left the heap -/
theorem tn_xc {dC : Nat → ClassId} {dI : Nat → Nat → Nat} {tys : List (ClassId × FieldType)} {ws : va_W} {s t : State} {H : Heap} {A : Nat → Prop} {locs : List Loc} {I : Prop} (hi : I) (hK : va_K (dC, dI) vwCl tys s) (hP : va_P (dC, dI) vwCl ws H) (hD : va_D A ws) (hS : va_S A s.heap H locs) (hvm : s.vm.Alike t.vm) (h1 : H.size ≤ t.heap.size) (h2 : ∀ q : Nat, q < H.size → t.heap[q]? = H[q]?) :
    vx_X (S := Unit) (fun _ => I) (fun E _ t => E = tn_NS ∧ tn_at dC dI tys A ws t) A tn_NS s t :=
  ⟨(), hi, ⟨rfl, hP.kept (fun k q hk => h2 q.1 (hP k q hk).lt), va_K.moved hvm hK, hD⟩, Nat.le_trans hS.1 h1, fun q hq hA => (h2 q (Nat.lt_of_lt_of_le hq hS.1)).trans (hS.2.1 q hq hA)⟩
theorem tn_app_get {α : Type} {a b : List α} {k : Nat} {q : α} (h : (a ++ b)[k]? = some q) : (k < a.length ∧ a[k]? = some q) ∨ (a.length ≤ k ∧ b[k - a.length]? = some q) := by
  rcases Nat.lt_or_ge k a.length with h1 | h1
  · rw [List.getElem?_append_left h1] at h; exact Or.inl ⟨h1, h⟩
  · rw [List.getElem?_append_right h1] at h; exact Or.inr ⟨h1, h⟩
theorem tn_P_l {D : va_G} {cl : List vw_C} {a b : va_W} {H : Heap} (h : va_P D cl (a ++ b) H) : va_P D cl a H := fun k q hk => h k q (by rw [List.getElem?_append_left (List.getElem?_eq_some_iff.mp hk).1]; exact hk)
theorem tn_P_r {D : va_G} {cl : List vw_C} {a b : va_W} {H : Heap} (h : va_P D cl (a ++ b) H) : va_P D cl b H := fun k q hk => h (a.length + k) q (by rw [List.getElem?_append_right (by omega)]; rw [show a.length + k - a.length = k by omega]; exact hk)
theorem tn_D_l {A : Nat → Prop} {a b : va_W} (h : va_D A (a ++ b)) : va_D A a := by
  have e : ∀ (k : Nat) (q : Nat × va_E), a[k]? = some q → (a ++ b)[k]? = some q := fun k q hk => by rw [List.getElem?_append_left (List.getElem?_eq_some_iff.mp hk).1]; exact hk
  exact ⟨fun i j p q hi hj he => h.1 i j p q (e i p hi) (e j q hj) he, fun k q hk => h.2 k q (e k q hk)⟩
theorem tn_D_r {A : Nat → Prop} {a b : va_W} (h : va_D A (a ++ b)) : va_D A b := by
  have e : ∀ (k : Nat) (q : Nat × va_E), b[k]? = some q → (a ++ b)[a.length + k]? = some q := fun k q hk => by rw [List.getElem?_append_right (by omega), show a.length + k - a.length = k by omega]; exact hk
  exact ⟨fun i j p q hi hj he => by have := h.1 _ _ p q (e i p hi) (e j q hj) he; omega, fun k q hk => h.2 _ q (e k q hk)⟩
theorem tn_D_x {A : Nat → Prop} {a b : va_W} (h : va_D A (a ++ b)) : ∀ (i j : Nat) (p q : Nat × va_E), a[i]? = some p → b[j]? = some q → p.1 ≠ q.1 := by
  intro i j p q hi hj he
  have hil := (List.getElem?_eq_some_iff.mp hi).1
  have := h.1 i (a.length + j) p q (by rw [List.getElem?_append_left hil]; exact hi) (by rw [List.getElem?_append_right (by omega), show a.length + j - a.length = j by omega]; exact hj) he
  omega
theorem tn_D_swap {A : Nat → Prop} {a b : va_W} (h : va_D A (a ++ b)) : va_D A (b ++ a) := (tn_D_r h).app (tn_D_l h) (fun i j p q hi hj he => tn_D_x h j i q p hj hi he.symm)
/-- behind a call whose cells were wx: they are wx' now, the rest is as it was -/
theorem tn_side {D : va_G} {cl : List vw_C} {A0 : Nat → Prop} {wx wr wx' : va_W} {H H1 : Heap} (hR : va_P D cl wr H) (hD : va_D A0 (wx ++ wr)) (hk : ∀ q : Nat, q < H.size → ¬ va_A wx H.size q → H1[q]? = H[q]?) (hF : ∀ q, va_A wx H.size q → A0 q) (hD1 : va_D (va_A wx H.size) wx') :
    va_P D cl wr H1 ∧ va_D A0 (wx' ++ wr) := by
  have hn : ∀ (k : Nat) (q : Nat × va_E), wr[k]? = some q → ¬ va_A wx H.size q.1 := by
    intro k q hk2 hA
    rcases hA with ⟨j, e, hj⟩ | hA
    · exact tn_D_x hD j k (q.1, e) q hj hk2 rfl
    · have := (hR k q hk2).lt; omega
  refine ⟨hR.kept (fun k q hk2 => hk q.1 (hR k q hk2).lt (hn k q hk2)), (hD1.weaken (fun _ q _ h => hF q.1 h)).app (tn_D_r hD) (fun i j p q hi hj he => ?_)⟩
  exact hn j q hj (he ▸ hD1.2 i p hi)
