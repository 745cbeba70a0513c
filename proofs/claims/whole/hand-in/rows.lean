section
-- ===== PART A: goes FIRST, ahead of the names: the tables' words, and 'selects' of the private methods out of them =====
/-- a private method of a class that the tables say can be made, by its rows of tables_1 -/
def lw_okq (q : MethodName × Nat) : Prop := (q.1.cls ≠ "java/lang/invoke/MethodHandle" ∧ q.1.cls ≠ "java/lang/invoke/VarHandle") ∧ Cond.instantiable q.1.cls q.2 ∈ tables_1 ∧ Cond.privateMethod q.1 ∈ tables_1 ∧ Cond.instanceMethod q.1 ∈ tables_1
theorem lw_p0 : lw_okq (⟨"TimeNet", "refuse", "(IIJ)Z"⟩, 11) := ⟨⟨by decide +kernel, by decide +kernel⟩, List.mem_of_getElem? (i := 8) (by decide +kernel), List.mem_of_getElem? (i := 65) (by decide +kernel), List.mem_of_getElem? (i := 66) (by decide +kernel)⟩
theorem lw_p1 : lw_okq (⟨"TimeNet", "findPath", "(II)Z"⟩, 11) := ⟨⟨by decide +kernel, by decide +kernel⟩, List.mem_of_getElem? (i := 8) (by decide +kernel), List.mem_of_getElem? (i := 69) (by decide +kernel), List.mem_of_getElem? (i := 70) (by decide +kernel)⟩
theorem lw_p2 : lw_okq (⟨"TimeNet", "measureTo", "(I)V"⟩, 11) := ⟨⟨by decide +kernel, by decide +kernel⟩, List.mem_of_getElem? (i := 8) (by decide +kernel), List.mem_of_getElem? (i := 73) (by decide +kernel), List.mem_of_getElem? (i := 74) (by decide +kernel)⟩
theorem lw_p3 : lw_okq (⟨"TimeNet", "improveAll", "()Z"⟩, 11) := ⟨⟨by decide +kernel, by decide +kernel⟩, List.mem_of_getElem? (i := 8) (by decide +kernel), List.mem_of_getElem? (i := 78) (by decide +kernel), List.mem_of_getElem? (i := 79) (by decide +kernel)⟩
theorem lw_p4 : lw_okq (⟨"TimeNet", "improveBy", "(I)Z"⟩, 11) := ⟨⟨by decide +kernel, by decide +kernel⟩, List.mem_of_getElem? (i := 8) (by decide +kernel), List.mem_of_getElem? (i := 82) (by decide +kernel), List.mem_of_getElem? (i := 83) (by decide +kernel)⟩
theorem lw_p5 : lw_okq (⟨"TimeNet", "append", "(I)V"⟩, 11) := ⟨⟨by decide +kernel, by decide +kernel⟩, List.mem_of_getElem? (i := 8) (by decide +kernel), List.mem_of_getElem? (i := 86) (by decide +kernel), List.mem_of_getElem? (i := 87) (by decide +kernel)⟩
theorem lw_p6 : lw_okq (⟨"TimeNet", "appendBestFrom", "(I)V"⟩, 11) := ⟨⟨by decide +kernel, by decide +kernel⟩, List.mem_of_getElem? (i := 8) (by decide +kernel), List.mem_of_getElem? (i := 90) (by decide +kernel), List.mem_of_getElem? (i := 91) (by decide +kernel)⟩
theorem lw_p7 : lw_okq (⟨"TimeNet", "nextOfBest", "(I)I"⟩, 11) := ⟨⟨by decide +kernel, by decide +kernel⟩, List.mem_of_getElem? (i := 8) (by decide +kernel), List.mem_of_getElem? (i := 94) (by decide +kernel), List.mem_of_getElem? (i := 95) (by decide +kernel)⟩
theorem lw_p8 : lw_okq (⟨"TimeNet", "beginsBest", "(I)Z"⟩, 11) := ⟨⟨by decide +kernel, by decide +kernel⟩, List.mem_of_getElem? (i := 8) (by decide +kernel), List.mem_of_getElem? (i := 98) (by decide +kernel), List.mem_of_getElem? (i := 99) (by decide +kernel)⟩
theorem lw_p9 : lw_okq (⟨"TimeNet", "isNumber", "(I)Z"⟩, 11) := ⟨⟨by decide +kernel, by decide +kernel⟩, List.mem_of_getElem? (i := 8) (by decide +kernel), List.mem_of_getElem? (i := 106) (by decide +kernel), List.mem_of_getElem? (i := 107) (by decide +kernel)⟩
theorem lw_p10 : lw_okq (⟨"java/lang/Throwable", "fillInStackTrace", "(I)Ljava/lang/Throwable;"⟩, 6) := ⟨⟨by decide +kernel, by decide +kernel⟩, List.mem_of_getElem? (i := 187) (by decide +kernel), List.mem_of_getElem? (i := 185) (by decide +kernel), List.mem_of_getElem? (i := 186) (by decide +kernel)⟩
theorem lw_p11 : lw_okq (⟨"TimeNetModel", "isBad", "(IIJ)Z"⟩, 12) := ⟨⟨by decide +kernel, by decide +kernel⟩, List.mem_of_getElem? (i := 220) (by decide +kernel), List.mem_of_getElem? (i := 276) (by decide +kernel), List.mem_of_getElem? (i := 277) (by decide +kernel)⟩
theorem lw_p12 : lw_okq (⟨"TimeNetModel", "best", "(II)Z"⟩, 12) := ⟨⟨by decide +kernel, by decide +kernel⟩, List.mem_of_getElem? (i := 220) (by decide +kernel), List.mem_of_getElem? (i := 280) (by decide +kernel), List.mem_of_getElem? (i := 281) (by decide +kernel)⟩
theorem lw_p13 : lw_okq (⟨"TimeNetModel", "walk", "(I)V"⟩, 12) := ⟨⟨by decide +kernel, by decide +kernel⟩, List.mem_of_getElem? (i := 220) (by decide +kernel), List.mem_of_getElem? (i := 285) (by decide +kernel), List.mem_of_getElem? (i := 286) (by decide +kernel)⟩
theorem lw_p14 : lw_okq (⟨"TimeNetModel", "step", "(II)J"⟩, 12) := ⟨⟨by decide +kernel, by decide +kernel⟩, List.mem_of_getElem? (i := 220) (by decide +kernel), List.mem_of_getElem? (i := 289) (by decide +kernel), List.mem_of_getElem? (i := 290) (by decide +kernel)⟩
theorem lw_p15 : lw_okq (⟨"TimeNetModel", "isThere", "(I)Z"⟩, 12) := ⟨⟨by decide +kernel, by decide +kernel⟩, List.mem_of_getElem? (i := 220) (by decide +kernel), List.mem_of_getElem? (i := 297) (by decide +kernel), List.mem_of_getElem? (i := 298) (by decide +kernel)⟩
def lw_privs_1 : List (MethodName × Nat) := [(⟨"TimeNet", "refuse", "(IIJ)Z"⟩, 11), (⟨"TimeNet", "findPath", "(II)Z"⟩, 11), (⟨"TimeNet", "measureTo", "(I)V"⟩, 11), (⟨"TimeNet", "improveAll", "()Z"⟩, 11), (⟨"TimeNet", "improveBy", "(I)Z"⟩, 11), (⟨"TimeNet", "append", "(I)V"⟩, 11), (⟨"TimeNet", "appendBestFrom", "(I)V"⟩, 11), (⟨"TimeNet", "nextOfBest", "(I)I"⟩, 11), (⟨"TimeNet", "beginsBest", "(I)Z"⟩, 11), (⟨"TimeNet", "isNumber", "(I)Z"⟩, 11), (⟨"java/lang/Throwable", "fillInStackTrace", "(I)Ljava/lang/Throwable;"⟩, 6), (⟨"TimeNetModel", "isBad", "(IIJ)Z"⟩, 12), (⟨"TimeNetModel", "best", "(II)Z"⟩, 12), (⟨"TimeNetModel", "walk", "(I)V"⟩, 12), (⟨"TimeNetModel", "step", "(II)J"⟩, 12), (⟨"TimeNetModel", "isThere", "(I)Z"⟩, 12)]
theorem lw_r1 : ∀ q ∈ lw_privs_1, lw_okq q := List.forall_mem_cons.mpr ⟨lw_p0, List.forall_mem_cons.mpr ⟨lw_p1, List.forall_mem_cons.mpr ⟨lw_p2, List.forall_mem_cons.mpr ⟨lw_p3, List.forall_mem_cons.mpr ⟨lw_p4, List.forall_mem_cons.mpr ⟨lw_p5, List.forall_mem_cons.mpr ⟨lw_p6, List.forall_mem_cons.mpr ⟨lw_p7, List.forall_mem_cons.mpr ⟨lw_p8, List.forall_mem_cons.mpr ⟨lw_p9, List.forall_mem_cons.mpr ⟨lw_p10, List.forall_mem_cons.mpr ⟨lw_p11, List.forall_mem_cons.mpr ⟨lw_p12, List.forall_mem_cons.mpr ⟨lw_p13, List.forall_mem_cons.mpr ⟨lw_p14, List.forall_mem_cons.mpr ⟨lw_p15, fun _ h => absurd h List.not_mem_nil⟩⟩⟩⟩⟩⟩⟩⟩⟩⟩⟩⟩⟩⟩⟩⟩
def lw_privs : List (MethodName × Nat) := lw_privs_1
def lw_tbl : List Cond := k2_sels lw_privs ++ tables_1
theorem lw_privs_ok : ∀ q ∈ lw_privs, lw_okq q := lw_r1
end
section
/-! ===== BEGIN words of one list among another's, by their places ===== -/
theorem goodIn_r {big : List Cond} (ws : List Cond) (ps : List Nat) (hp : ws = ps.filterMap (fun i => big[i]?)) (h : ws.all goodWord = true) : GoodIn big ws := by
  intro w hw
  have h1 := List.all_eq_true.mp h w hw
  rw [hp] at hw
  obtain ⟨i, -, hi⟩ := List.mem_filterMap.mp hw
  have hm : w ∈ big := by first | exact List.mem_of_getElem? hi | exact List.getElem?_mem hi
  exact ⟨hm, good_of_word h1⟩
theorem goodIn_app {big a b : List Cond} (ha : GoodIn big a) (hb : GoodIn big b) : GoodIn big (a ++ b) := fun w h => (List.mem_append.mp h).elim (ha w) (hb w)
theorem goodIn_ca {big a b : List Cond} {c : Cond} (ha : GoodIn big (c :: a)) (hb : GoodIn big b) : GoodIn big (c :: (a ++ b)) := fun w h => (List.mem_cons.mp h).elim (fun e => ha w (List.mem_cons.mpr (Or.inl e))) (fun h => (List.mem_append.mp h).elim (fun h => ha w (List.mem_cons.mpr (Or.inr h))) (hb w))
theorem goodIn_sub {big ws : List Cond} (hm : ∀ w ∈ ws, w ∈ big) (h : ws.all goodWord = true) : GoodIn big ws := fun w hw => ⟨hm w hw, good_of_word (List.all_eq_true.mp h w hw)⟩
/-! ===== END ===== -/

/-! ===== BEGIN exceptions that leave a method, and their catching by the caller (launches without stack traces) ===== -/
section VXA
/-! The laws vx_back, vx_callV, vx_callS, vx_callSW, vx_throw0, vx_throwS follow proofs of the library, with one case more: JvmDerived/Free/Laws.lean (Back.of_free), Shelf42/LK1.lean (callV, callS), Shelf/KitTraced.lean (throwNew0V, throwNewS). -/
/-- where a method has thrown q: the class by its name, the cell, what was written, the world -/
def vx_T (XC : String → State → State → Prop) (st : State) (q : Addr) (t : State) (mc ms : Nat) (free : Addr → Prop) : Prop :=
  ∃ (E : String) (ce : Cell) (L : List Loc), XC E st t ∧ t.heap[q]? = some ce ∧ ce.vm = .none ∧ st.vm.findClass E = some ce.cls ∧ st.WarmedH t.vm ∧ st.sameButNew ({ t with vm := st.vm } : State) L mc ms ∧ ∀ z ∈ L, free z.base
def vx_Q (Qc : Array Value → State → Outcome → State → Prop) (XC : String → State → State → Prop) (mc ms : Nat) (free : Addr → Prop) : Array Value → State → Outcome → State → Prop := fun a st o t =>
  (Qc a st o t ∧ ∃ L, FrameEnd st o t L mc ms ∧ ∀ q ∈ L, free q.base) ∨ ∃ q, o = .threw q ∧ vx_T XC st q t mc ms free
/-- a callee that returns or throws -/
def vx_Met (l : Launch) (y : MethodName) (ws : List Cond) (rm : Room) (Pc : Array Value → State → Prop) (Qc : Array Value → State → Outcome → State → Prop) (XC : String → State → State → Prop) (mc ms : Nat) (free : Addr → Prop) : Prop :=
  MetFree l y (headSpec ws rm) Pc (fun _ _ _ _ _ => True) (vx_Q Qc XC mc ms free)
def vx_Post (XC : String → State → State → Prop) (mc ms : Nat) (free : Addr → Prop) : Pt → Array Value → Addr → Pt → Prop := fun A a q B =>
  ∃ (g : JFrame) (mk : MethodId) (t : State) (L : List Loc) (E : String) (ce : Cell), B.U.heap = t.heap ∧ B.U.vm = t.vm ∧ XC E (A.U.calling g mk a) t ∧ t.heap[q]? = some ce ∧ ce.vm = .none ∧ A.U.vm.findClass E = some ce.cls ∧ B.locs = A.locs ++ L ∧ (∀ z ∈ L, free z.base) ∧ B.cells = A.cells + mc ∧ B.slots = A.slots + ms
def vx_Back (l : Launch) (R : Room) (p : Program) (e : Env) (below : List Frame) (s : State) (sargs : Array Value) (y : MethodName) (len W9 : Nat)
    (Pre : Pt → Array Value → Prop) (Post : Pt → Array Value → Option Value → Pt → Prop) (PostX : Pt → Array Value → Addr → Pt → Prop) : Prop :=
  ∀ (m : MethodId) (meth : Method) (c : Code) (A : Pt) (g : JFrame) (ig : Instr) (mk : MethodId) (a : Array Value),
    Stand p l e R s m sargs below meth c A.U A.locs A.cells A.slots → g.method = m → g.locals.size = c.maxLocals → decode c.code g.pc = .ok (ig, len) →
    2 * g.monitorRoom + (g.stack.map fun v => v.category).sum ≤ W9 → A.U.methodNamed? y = some mk → Pre A a →
    (∃ (v : Option Value) (B : Pt), Stand p l e R s m sargs below meth c B.U B.locs B.cells B.slots ∧ Post A a v B ∧
      Steps p.tables e below (doInvoke e (A.U.setTop g) [] mk a).1 (B.U.setTop { g with pc := g.pc + len, stack := v.toList ++ g.stack })) ∨
    (∃ (q : Addr) (B : Pt), Stand p l e R s m sargs below meth c B.U B.locs B.cells B.slots ∧ PostX A a q B ∧
      Steps p.tables e below (doInvoke e (A.U.setTop g) [] mk a).1 ((B.U.setTop g).pushFrame (.throwing q)))
section Payer
variable {l : Launch} {R : Room} {p : Program} {e : Env} {below : List Frame} {s : State} {sargs : Array Value} {y : MethodName} {len W9 : Nat}
theorem vx_back {ws : List Cond} {rm : Room} {Pc : Array Value → State → Prop} {Qc : Array Value → State → Outcome → State → Prop} {XC : String → State → State → Prop} {mc ms : Nat} {free : Addr → Prop} {bytes : ByteArray} {maxL : Nat} {ret : Option FieldType}
    (hM : vx_Met l y ws rm Pc Qc XC mc ms free) (hblind : FrameBlind Pc) (hrc : rm.cells = mc) (hrs : rm.slots = ms)
    (hframes : rm.frames + 1 ≤ R.frames) (hlocals : W9 + (maxL + 11) + rm.locals ≤ R.locals)
    (hws : ∀ w ∈ ws, ∀ a' U, s.WarmedH U.vm → w.before a' U = true) (hcode : Cond.code y bytes maxL ret ∈ ws) (hinit : ∀ a' U, s.WarmedH U.vm → (Cond.initialized y.cls).before a' U = true) :
    vx_Back l R p e below s sargs y len W9 (PreOf R mc ms Pc) (PostOf Qc mc ms free) (vx_Post XC mc ms free) := by
  intro m meth c A g ig mk a X hg hsize hdg hW hn hp
  have h1 : (headSpec ws rm).pre.before a A.U = true := atoms_intro fun w hw => hws w hw _ _ X.warmed
  have h2 : (Cond.code y bytes maxL ret).before a A.U = true := hws _ hcode _ _ X.warmed
  have h3 : (Cond.initialized y.cls).before a A.U = true := hinit _ _ X.warmed
  have h4 : A.cells + (headSpec ws rm).room.cells ≤ R.cells := by rw [show (headSpec ws rm).room.cells = mc from hrc]; exact hp.1
  have h5 : A.slots + (headSpec ws rm).room.slots ≤ R.slots := by rw [show (headSpec ws rm).room.slots = ms from hrs]; exact hp.2.1
  have hPc : Pc a (A.U.calling g mk a) := hblind _ _ _ _ hp.2.2
  obtain ⟨U, Ls, c0, s0⟩ := A
  dsimp only [Pt.U, Pt.locs, Pt.cells, Pt.slots] at h1 h2 h3 h4 h5 X hn hPc ⊢
  obtain ⟨methY, cY, hmY, hcY, -, hlY, -, -, -, -⟩ := Cond.code_spec hn h2
  obtain ⟨kY, hkY, -⟩ := className_of_methodNamed hn
  have hinitY : kY.init = .initialized := Cond.initialized_spec (findClass_of_methodNamed hn) hkY h3
  have h : At U g.method c below := by rw [hg]; exact X.here
  have hlocals9 : W9 + (maxL + 11) + (headSpec ws rm).room.locals ≤ R.locals := hlocals
  have happ : (headSpec ws rm).appliesLoose y e.platform (U.calling g mk a) = true :=
    Spec.appliesLoose_calling (g := g) h hdg hn hkY hinitY
      (X.room_calling (g := g) (R' := (headSpec ws rm).room) hsize hmY hcY hframes (by rw [hlY]; omega) h4 h5) h1
  obtain ⟨mid, hmid⟩ := h.above
  have hfr : (U.setTop g).frames = (.java g :: mid) ++ below := by rw [State.frames_setTop' g h.top, hmid]; rfl
  obtain ⟨o, s₂, hsteps, -, hend, hq⟩ := Steps.callFree hM p X.admits X.cas X.clock (acts := []) hfr happ hPc trivial
  have hq' : vx_Q Qc XC mc ms free a (U.calling g mk a) o s₂ := hq
  rw [State.frames_setTop' g h.top] at hend
  obtain ⟨g₀, hg0⟩ := Option.isSome_iff_exists.mp h.top
  obtain ⟨r, hr⟩ := State.topJava?_eq_some.mp hg0
  have hr' : (({ U with heap := s₂.heap, slotsUsed := s₂.slotsUsed } : State).setVm s₂.vm).frames = .java g₀ :: r := hr
  rcases hq' with ⟨hqc, L, hfe, hL⟩ | ⟨q, rfl, E, ce, L, hx, hce, hcv, hcl, hW₂, hsm, hL⟩
  · obtain ⟨⟨v, rfl⟩, hW₂, e2, q2, q3, q4, q5, q6⟩ := id hfe
    have e3 : s₂ = ({ (U.calling g mk a).setFrames s₂.frames with heap := s₂.heap, slotsUsed := s₂.slotsUsed } : State).setVm s₂.vm := by
      have : s₂ = ({ s₂ with vm := (U.calling g mk a).vm } : State).setVm s₂.vm := rfl
      rw [e2] at this
      exact this
    obtain ⟨c₂, i₂, len₂, hc₂, hd₂, hf₂⟩ := hend
    have hW' : U.WarmedH s₂.vm := hW₂
    have hcc : c₂ = c := by
      have h1 : s₂.code? g.method = U.code? g.method := by
        rw [State.code?_eq, State.code?_eq, hW'.alike.method?]
      exact Option.some.inj (hc₂.symm.trans (h1.trans h.code))
    subst hcc
    have hlen : len₂ = len := by rw [hdg] at hd₂; cases hd₂; rfl
    subst hlen
    have hs₂ : s₂ = (({ U with heap := s₂.heap, slotsUsed := s₂.slotsUsed } : State).setVm s₂.vm).setTop { g with pc := g.pc + len₂, stack := v.toList ++ g.stack } := by
      refine e3.trans ?_
      rw [hf₂, State.calling_eq h.top, State.setFrames_setFrames, State.setTop_of_frames _ hr', hr]
      rfl
    have hsame : U.sameButNew ({ U with heap := s₂.heap, slotsUsed := s₂.slotsUsed } : State) L mc ms := by
      refine ⟨?_, q2, q3, q4, q5, q6⟩
      obtain ⟨t, ht, -⟩ := State.frames_cons hr
      show ({ U with heap := s₂.heap, slotsUsed := s₂.slotsUsed } : State) = { U.setFrames U.frames with heap := s₂.heap, slotsUsed := s₂.slotsUsed }
      rw [State.setFrames_self ht]
    subst hg
    refine Or.inl ⟨v, ⟨(({ U with heap := s₂.heap, slotsUsed := s₂.slotsUsed } : State).setVm s₂.vm), Ls ++ L, c0 + mc, s0 + ms⟩,
      ⟨X.admits, X.cas, X.clock, X.frames, X.room, X.hears, X.method, X.code, (X.here.setHeapUsed s₂.heap s₂.slotsUsed).setVm hW'.alike, X.tail, State.WarmedH.trans X.warmed hW', X.limits, X.bytes, X.same.trans (hsame.setVm s.vm)⟩,
      ⟨g, mk, s₂, L, rfl, rfl, hqc, rfl, hL, rfl, rfl⟩, ?_⟩
    show Steps p.tables e below _ ((({ U with heap := s₂.heap, slotsUsed := s₂.slotsUsed } : State).setVm s₂.vm).setTop { g with pc := g.pc + len₂, stack := v.toList ++ g.stack })
    rw [← hs₂]
    exact hsteps
  · obtain ⟨e2, q2, q3, q4, q5, q6⟩ := id hsm
    have e3 : s₂ = ({ (U.calling g mk a).setFrames s₂.frames with heap := s₂.heap, slotsUsed := s₂.slotsUsed } : State).setVm s₂.vm := by
      have : s₂ = ({ s₂ with vm := (U.calling g mk a).vm } : State).setVm s₂.vm := rfl
      rw [e2] at this
      exact this
    have hf₂ : s₂.frames = .throwing q :: .java g :: U.frames.tail := hend
    have hW' : U.WarmedH s₂.vm := hW₂
    have hs₂ : s₂ = ((({ U with heap := s₂.heap, slotsUsed := s₂.slotsUsed } : State).setVm s₂.vm).setTop g).pushFrame (.throwing q) := by
      refine e3.trans ?_
      rw [hf₂, State.calling_eq h.top, State.setFrames_setFrames, State.pushFrame, State.frames_setTop _ hr', State.setTop_of_frames _ hr', State.setFrames_setFrames, hr]
      rfl
    have hsame : U.sameButNew ({ U with heap := s₂.heap, slotsUsed := s₂.slotsUsed } : State) L mc ms := by
      refine ⟨?_, q2, q3, q4, q5, q6⟩
      obtain ⟨t, ht, -⟩ := State.frames_cons hr
      show ({ U with heap := s₂.heap, slotsUsed := s₂.slotsUsed } : State) = { U.setFrames U.frames with heap := s₂.heap, slotsUsed := s₂.slotsUsed }
      rw [State.setFrames_self ht]
    subst hg
    refine Or.inr ⟨q, ⟨(({ U with heap := s₂.heap, slotsUsed := s₂.slotsUsed } : State).setVm s₂.vm), Ls ++ L, c0 + mc, s0 + ms⟩,
      ⟨X.admits, X.cas, X.clock, X.frames, X.room, X.hears, X.method, X.code, (X.here.setHeapUsed s₂.heap s₂.slotsUsed).setVm hW'.alike, X.tail, State.WarmedH.trans X.warmed hW', X.limits, X.bytes, X.same.trans (hsame.setVm s.vm)⟩,
      ⟨g, mk, s₂, L, E, ce, rfl, rfl, hx, hce, hcv, hcl, rfl, hL, rfl, rfl⟩, ?_⟩
    show Steps p.tables e below _ (((({ U with heap := s₂.heap, slotsUsed := s₂.slotsUsed } : State).setVm s₂.vm).setTop g).pushFrame (.throwing q))
    rw [← hs₂]
    exact hsteps
end Payer
section Calls
variable {p : Program} {l : Launch} {e : Env} {R : Room} {s : State} {m : MethodId} {args : Array Value} {below : List Frame} {meth : Method} {c : Code} {T : State} {locs : List Loc} {cells slots : Nat}
theorem vx_callV (X : Stand p l e R s m args below meth c T locs cells slots) (hexec : p.tables.exec = Jvm.exec) {own C : String} {index : Nat} {y : MethodName} {bytes : ByteArray} {maxL : Nat} {ret : Option FieldType}
    (hown : s.vm.findClass own = some m.cls) (hlink : (Cond.methodLink own index y).before args s = true) (hinst : (Cond.instanceMethod y).before args s = true) (hsel : (Cond.selects C y y).before args s = true)
    (hcode : (Cond.code y bytes maxL ret).before args s = true) (hy : y.cls ≠ "java/lang/invoke/MethodHandle" ∧ y.cls ≠ "java/lang/invoke/VarHandle")
    {W9 : Nat} {Pre : Pt → Array Value → Prop} {Post : Pt → Array Value → Option Value → Pt → Prop} {PostX : Pt → Array Value → Addr → Pt → Prop} (hK : vx_Back l R p e below s args y 3 W9 Pre Post PostX)
    {b : Addr} {cellB : Cell} (hcell : T.heap[b]? = some cellB) (hobj : cellB.vm.isStatics = false) (hcls : s.vm.findClass C = some cellB.cls)
    {g : JFrame} (hg : g.method = m) (hsize : g.locals.size = c.maxLocals) {argsL rest : List Value} (hlen : ∀ sig, parseMethodDescriptor y.desc = some sig → argsL.length = sig.parameters.length)
    (hstack : g.stack = argsL.reverse ++ .ref b :: rest) (hW : 2 * g.monitorRoom + (rest.map fun v => v.category).sum ≤ W9) (hdg : decode c.code g.pc = .ok (.invokevirtual index, 3))
    (hpre : ∀ vm₁, s.WarmedH vm₁ → Pre ⟨T.setVm vm₁, locs, cells, slots⟩ (Value.ref b :: argsL).toArray) :
    (∃ (v : Option Value) (vm₁ : Vm) (B : Pt), s.WarmedH vm₁ ∧ Stand p l e R s m args below meth c B.U B.locs B.cells B.slots ∧ Post ⟨T.setVm vm₁, locs, cells, slots⟩ (Value.ref b :: argsL).toArray v B ∧
      ∀ target, Steps p.tables e below (B.U.setTop { g with pc := g.pc + 3, stack := v.toList ++ rest }) target → Steps p.tables e below (T.setTop g) target) ∨
    (∃ (q : Addr) (vm₁ : Vm) (B : Pt), s.WarmedH vm₁ ∧ Stand p l e R s m args below meth c B.U B.locs B.cells B.slots ∧ PostX ⟨T.setVm vm₁, locs, cells, slots⟩ (Value.ref b :: argsL).toArray q B ∧
      Steps p.tables e below (T.setTop g) ((B.U.setTop { g with stack := rest }).pushFrame (.throwing q))) := by
  obtain ⟨mk, methM, hnamed, hmethM, hstM, habM⟩ := Cond.instanceMethod_spec hinst
  obtain ⟨methM', cM, hmethM', -, -, -, -, -, -, hsigM⟩ := Cond.code_spec hnamed hcode
  cases hmethM.symm.trans hmethM'
  obtain ⟨c2, r2, m2, q1, q2, q3, q4, kP, hkP, hkPi⟩ := Cond.selects_spec hsel
  cases hcls.symm.trans q1
  cases (State.methodFound?_of_named hnamed hy).symm.trans q2
  cases hnamed.symm.trans q3
  have hselP : selectMethod e.platform s.vm cellB.cls mk = .method mk := by rw [Launch.admits_selectMethod X.admits]; exact q4
  obtain ⟨vm₁, X₁, hstep₁⟩ := X.invokevirtual hexec hown hlink hnamed hmethM hstM hkP hkPi hy (a := b) (cell := cellB) hcell
    (fun z h => by rw [h] at hobj; cases hobj) hselP hmethM habM hkP hkPi (g := g) hg (argsL := argsL) (rest := rest) (hlen _ hsigM) hstack hdg
  rcases hK m meth c ⟨T.setVm vm₁, locs, cells, slots⟩ { g with stack := rest } (.invokevirtual index) mk (Value.ref b :: argsL).toArray X₁ hg hsize hdg hW (X₁.named hnamed) (hpre vm₁ X₁.warmed) with ⟨v, B, X', hpost, hsteps⟩ | ⟨q, B, X', hpost, hsteps⟩
  · exact Or.inl ⟨v, vm₁, B, X₁.warmed, X', hpost, fun target h => hstep₁ _ fun acts => by rw [doInvoke_state]; exact hsteps.trans h⟩
  · exact Or.inr ⟨q, vm₁, B, X₁.warmed, X', hpost, hstep₁ _ fun acts => by rw [doInvoke_state]; exact hsteps⟩
theorem vx_callS (X : Stand p l e R s m args below meth c T locs cells slots) (hexec : p.tables.exec = Jvm.exec) {own : String} {index : Nat} {y : MethodName} {bytes : ByteArray} {maxL : Nat} {ret : Option FieldType}
    (hown : s.vm.findClass own = some m.cls) (hlink : (Cond.methodLink own index y).before args s = true) (hstat : (Cond.static y).before args s = true) (hinit : (Cond.initialized y.cls).before args s = true)
    (hcode : (Cond.code y bytes maxL ret).before args s = true) (hy : y.cls ≠ "java/lang/invoke/MethodHandle" ∧ y.cls ≠ "java/lang/invoke/VarHandle")
    {W9 : Nat} {Pre : Pt → Array Value → Prop} {Post : Pt → Array Value → Option Value → Pt → Prop} {PostX : Pt → Array Value → Addr → Pt → Prop} (hK : vx_Back l R p e below s args y 3 W9 Pre Post PostX)
    {g : JFrame} (hg : g.method = m) (hsize : g.locals.size = c.maxLocals) {argsL rest : List Value} (hlen : ∀ sig, parseMethodDescriptor y.desc = some sig → argsL.length = sig.parameters.length)
    (hstack : g.stack = argsL.reverse ++ rest) (hW : 2 * g.monitorRoom + (rest.map fun v => v.category).sum ≤ W9) (hdg : decode c.code g.pc = .ok (.invokestatic index, 3))
    (hpre : ∀ vm₁, s.WarmedH vm₁ → Pre ⟨T.setVm vm₁, locs, cells, slots⟩ argsL.toArray) :
    (∃ (v : Option Value) (vm₁ : Vm) (B : Pt), s.WarmedH vm₁ ∧ Stand p l e R s m args below meth c B.U B.locs B.cells B.slots ∧ Post ⟨T.setVm vm₁, locs, cells, slots⟩ argsL.toArray v B ∧
      ∀ target, Steps p.tables e below (B.U.setTop { g with pc := g.pc + 3, stack := v.toList ++ rest }) target → Steps p.tables e below (T.setTop g) target) ∨
    (∃ (q : Addr) (vm₁ : Vm) (B : Pt), s.WarmedH vm₁ ∧ Stand p l e R s m args below meth c B.U B.locs B.cells B.slots ∧ PostX ⟨T.setVm vm₁, locs, cells, slots⟩ argsL.toArray q B ∧
      Steps p.tables e below (T.setTop g) ((B.U.setTop { g with stack := rest }).pushFrame (.throwing q))) := by
  obtain ⟨mk, hnamed⟩ := Cond.code_named hcode
  obtain ⟨methM, cM, hmethM, -, -, -, -, -, -, hsigM⟩ := Cond.code_spec hnamed hcode
  have hstatic : methM.isStatic = true := Cond.static_spec hnamed hmethM hstat
  obtain ⟨kP, hkP, -⟩ := className_of_methodNamed hnamed
  have hinitP : kP.init = .initialized := Cond.initialized_spec (findClass_of_methodNamed hnamed) hkP hinit
  obtain ⟨vm₁, X₁, hstep₁⟩ := X.invokestatic hexec hown hlink hnamed hmethM hstatic hkP hinitP hy (g := g) hg (argsL := argsL) (rest := rest) (hlen _ hsigM) hstack hdg
  rcases hK m meth c ⟨T.setVm vm₁, locs, cells, slots⟩ { g with stack := rest } (.invokestatic index) mk argsL.toArray X₁ hg hsize hdg hW (X₁.named hnamed) (hpre vm₁ X₁.warmed) with ⟨v, B, X', hpost, hsteps⟩ | ⟨q, B, X', hpost, hsteps⟩
  · exact Or.inl ⟨v, vm₁, B, X₁.warmed, X', hpost, fun target h => hstep₁ _ fun acts => by rw [doInvoke_state]; exact hsteps.trans h⟩
  · exact Or.inr ⟨q, vm₁, B, X₁.warmed, X', hpost, hstep₁ _ fun acts => by rw [doInvoke_state]; exact hsteps⟩
end Calls
theorem vx_cls {s : State} {T : State} {vm₁ : Vm} {E : String} {k : ClassId} (hW : s.WarmedH vm₁) (h : (T.setVm vm₁).vm.findClass E = some k) : s.vm.findClass E = some k := by
  have h1 : vm₁.findClass E = some k := h
  rw [hW.alike.findClass] at h1
  exact h1
/-- the method's frame g, with q thrown over it -/
def vx_W (p : Program) (l : Launch) (e : Env) (R : Room) (s : State) (m : MethodId) (args : Array Value) (below : List Frame) (meth : Method) (c : Code) (H : Heap) (locs : List Loc) (cells slots : Nat) (Q : State → Prop) (g : JFrame) (q : Addr) : Prop :=
  ∀ T : State, T.heap = H → Stand p l e R s m args below meth c T locs cells slots → ∃ t, Steps p.tables e below ((T.setTop g).pushFrame (.throwing q)) t ∧ Q t
def vx_Run (p : Program) (l : Launch) (e : Env) (R : Room) (s : State) (m : MethodId) (args : Array Value) (below : List Frame) (meth : Method) (c : Code) (H : Heap) (locs : List Loc) (cells slots mc ms : Nat) (g : JFrame) (rest : List Value) (Qa : State → Outcome → State → Prop) (XC : String → State → State → Prop) (free : Addr → Prop) : Prop :=
  ∀ T : State, T.heap = H → Stand p l e R s m args below meth c T locs cells slots →
    (∃ (v : Option Value) (st₀ t T' : State) (L : List Loc), st₀.heap = H ∧ Stand p l e R s m args below meth c T' (locs ++ L) (cells + mc) (slots + ms) ∧ (∀ q ∈ L, free q.base) ∧ T'.heap = t.heap ∧ T'.vm = t.vm ∧ Qa st₀ (.returned v) t ∧
      Goes p e below T g T' { g with pc := g.pc + 3, stack := v.toList ++ rest }) ∨
    (∃ (q : Addr) (st₀ t T' : State) (L : List Loc) (E : String) (ce : Cell), st₀.heap = H ∧ Stand p l e R s m args below meth c T' (locs ++ L) (cells + mc) (slots + ms) ∧ (∀ z ∈ L, free z.base) ∧ T'.heap = t.heap ∧ T'.vm = t.vm ∧ XC E st₀ t ∧ t.heap[q]? = some ce ∧ ce.vm = .none ∧ s.vm.findClass E = some ce.cls ∧
      Steps p.tables e below (T.setTop g) ((T'.setTop { g with stack := rest }).pushFrame (.throwing q)))
def vx_X {S : Type} (px : S → Prop) (B : String → S → State → Prop) (A : Nat → Prop) : String → State → State → Prop := fun E st t => ∃ u : S, px u ∧ B E u t ∧ va_F A st t
section Runs
variable {p : Program} {l : Launch} {e : Env} {R : Room} {s : State} {m : MethodId} {args : Array Value} {below : List Frame} {meth : Method} {c : Code} {H : Heap} {locs : List Loc} {cells slots : Nat}
variable {y : MethodName} {bytes cc : ByteArray} {maxL nL mc ms n index : Nat} {ret : Option FieldType} {ws : List Cond} {rm : Room} {Pc : Array Value → State → Prop} {Qc : Array Value → State → Outcome → State → Prop} {XC : String → State → State → Prop} {free : Addr → Prop} {Ts : List Cond} {own C : String} {b : Addr} {As rest : List Value} {g : JFrame}
theorem vx_callBack (cb : CallB R s args own index y bytes maxL ret ws rm mc ms n) (hM : vx_Met l y ws rm Pc Qc XC mc ms free) (hbl : FrameBlind Pc) : vx_Back l R p e below s args y 3 8 (PreOf R mc ms Pc) (PostOf Qc mc ms free) (vx_Post XC mc ms free) := by
  obtain ⟨hrc, hrs, hfr, hlo, hws, hcw, -, hini, -⟩ := cb
  exact vx_back (bytes := bytes) (maxL := maxL) (ret := ret) hM hbl hrc hrs hfr hlo hws hcw (fun a' U hW => word_at hW (Or.inl (by first | rfl | simp [Cond.onTables, Cond.keeps, Cond.steady])) hini)
theorem vx_runV (S : CallFix p m c cc nL s args Ts own) (hM : vx_Met l y ws rm Pc Qc XC mc ms free) (cw : CallW R s args own C index y bytes maxL ret ws rm mc ms n) (hp : PreV s H C b Pc As)
    (hg : g.method = m) (hn : As.length = n) (hsize : g.locals.size = nL) (hstack : g.stack = As.reverse ++ .ref b :: rest) (hW : 2 * g.monitorRoom + (rest.map fun v => v.category).sum ≤ 8) (hdg : decode cc g.pc = .ok (.invokevirtual index, 3)) (hf : cells + mc ≤ R.cells ∧ slots + ms ≤ R.slots) :
    vx_Run p l e R s m args below meth c H locs cells slots mc ms g rest (Qc (Value.ref b :: As).toArray) XC free := by
  have hK : vx_Back l R p e below s args y 3 8 (PreOf R mc ms Pc) (PostOf Qc mc ms free) (vx_Post XC mc ms free) := vx_callBack cw.1 hM hp.1
  obtain ⟨⟨-, -, -, -, -, -, hcode, -, hy, hlen, hl⟩, hin, hse⟩ := cw
  obtain ⟨hx, hb, hml, ho, -⟩ := S
  obtain ⟨-, ⟨cellB, hcB, hoB, hclB⟩, hPc⟩ := hp
  intro T hT X
  rcases vx_callV X hx (C := C) (bytes := bytes) (maxL := maxL) (ret := ret) ho hl hin hse hcode hy hK (by rw [hT]; exact hcB) hoB hclB hg (hsize.trans hml.symm) (argsL := As) (rest := rest) (fun sig h => hn.trans (hlen sig h)) hstack hW (by rw [hb]; exact hdg)
    (fun vm₁ hW₁ => ⟨hf.1, hf.2, hPc (T.setVm vm₁) hT hW₁⟩) with ⟨v, vm₁, ⟨U', l2, c2, s2⟩, hW₁, X', ⟨g', mk, t, L, e1, e2, hq, h1, hL, h2, h3⟩, st⟩ | ⟨q, vm₁, ⟨U', l2, c2, s2⟩, hW₁, X', ⟨g', mk, t, L, E, ce, e1, e2, hq, hce, hcv, hcl, h1, hL, h2, h3⟩, st⟩
  · dsimp only [Pt.U, Pt.locs, Pt.cells, Pt.slots] at X' e1 e2 h1 h2 h3 st
    subst h1; subst h2; subst h3
    exact Or.inl ⟨v, (T.setVm vm₁).calling g' mk (Value.ref b :: As).toArray, t, U', L, hT, X', hL, e1, e2, hq, st⟩
  · dsimp only [Pt.U, Pt.locs, Pt.cells, Pt.slots] at X' e1 e2 h1 h2 h3 st hcl
    subst h1; subst h2; subst h3
    exact Or.inr ⟨q, (T.setVm vm₁).calling g' mk (Value.ref b :: As).toArray, t, U', L, E, ce, hT, X', hL, e1, e2, hq, hce, hcv, vx_cls hW₁ hcl, st⟩
theorem vx_runS (S : CallFix p m c cc nL s args Ts own) (hM : vx_Met l y ws rm Pc Qc XC mc ms free) (cw : CallB R s args own index y bytes maxL ret ws rm mc ms n ∧ (Cond.static y).before args s = true) (hp : PreS s H Pc As)
    (hg : g.method = m) (hn : As.length = n) (hsize : g.locals.size = nL) (hstack : g.stack = As.reverse ++ rest) (hW : 2 * g.monitorRoom + (rest.map fun v => v.category).sum ≤ 8) (hdg : decode cc g.pc = .ok (.invokestatic index, 3)) (hf : cells + mc ≤ R.cells ∧ slots + ms ≤ R.slots) :
    vx_Run p l e R s m args below meth c H locs cells slots mc ms g rest (Qc As.toArray) XC free := by
  have hK : vx_Back l R p e below s args y 3 8 (PreOf R mc ms Pc) (PostOf Qc mc ms free) (vx_Post XC mc ms free) := vx_callBack cw.1 hM hp.1
  obtain ⟨⟨-, -, -, -, -, -, hcode, hini, hy, hlen, hl⟩, hstt⟩ := cw
  obtain ⟨hx, hb, hml, ho, -⟩ := S
  intro T hT X
  rcases vx_callS X hx (bytes := bytes) (maxL := maxL) (ret := ret) ho hl hstt hini hcode hy hK hg (hsize.trans hml.symm) (argsL := As) (rest := rest) (fun sig h => hn.trans (hlen sig h)) hstack hW (by rw [hb]; exact hdg)
    (fun vm₁ hW₁ => ⟨hf.1, hf.2, hp.2 (T.setVm vm₁) hT hW₁⟩) with ⟨v, vm₁, ⟨U', l2, c2, s2⟩, hW₁, X', ⟨g', mk, t, L, e1, e2, hq, h1, hL, h2, h3⟩, st⟩ | ⟨q, vm₁, ⟨U', l2, c2, s2⟩, hW₁, X', ⟨g', mk, t, L, E, ce, e1, e2, hq, hce, hcv, hcl, h1, hL, h2, h3⟩, st⟩
  · dsimp only [Pt.U, Pt.locs, Pt.cells, Pt.slots] at X' e1 e2 h1 h2 h3 st
    subst h1; subst h2; subst h3
    exact Or.inl ⟨v, (T.setVm vm₁).calling g' mk As.toArray, t, U', L, hT, X', hL, e1, e2, hq, st⟩
  · dsimp only [Pt.U, Pt.locs, Pt.cells, Pt.slots] at X' e1 e2 h1 h2 h3 st hcl
    subst h1; subst h2; subst h3
    exact Or.inr ⟨q, (T.setVm vm₁).calling g' mk As.toArray, t, U', L, E, ce, hT, X', hL, e1, e2, hq, hce, hcv, vx_cls hW₁ hcl, st⟩
end Runs
section Rows
variable {p : Program} {l : Launch} {e : Env} {R : Room} {s : State} {m : MethodId} {args : Array Value} {below : List Frame} {meth : Method} {c : Code} {H : Heap} {locs : List Loc} {cells slots : Nat} {Q : State → Prop}
variable {mc ms : Nat} {free : Addr → Prop} {A0 A1 : Nat → Prop} {H0 : Heap} {a : Array Value} {pc : Nat} {ls : Array Slot} {st0 rest : List Value}
theorem vx_keep {st₀ t T' : State} {L : List Loc} (h0 : st₀.heap = H) (e1 : T'.heap = t.heap) (hS : va_S A0 H0 H locs) (hA : ∀ q, q < H.size → A1 q → A0 q) (hf : ∀ q, free q → A0 q) (hL : ∀ q ∈ L, free q.base) (hF : va_F A1 st₀ t) :
    H.size ≤ T'.heap.size ∧ (∀ q : Nat, q < H.size → ¬ A1 q → T'.heap[q]? = H[q]?) ∧ va_S A0 H0 T'.heap (locs ++ L) := by
  obtain ⟨hz, hk⟩ := hF
  rw [h0] at hz hk
  exact ⟨by rw [e1]; exact hz, fun q h1 h2 => by rw [e1]; exact hk q h1 h2,
    ⟨Nat.le_trans hS.1 (by rw [e1]; exact hz), fun q h1 h2 => by rw [e1, hk q (Nat.lt_of_lt_of_le h1 hS.1) (fun z => h2 (hA q (Nat.lt_of_lt_of_le h1 hS.1) z))]; exact hS.2.1 q h1 h2, fun q hq => by
      rcases List.mem_append.mp hq with h | h
      · exact hS.2.2 q h
      · exact hf _ (hL q h)⟩⟩
theorem vx_calli {S SX : Type} {post : Int32 → S → Prop} {px : SX → Prop} {B : S → State → Prop} {BX : String → SX → State → Prop} {AX : Nat → Prop} (hr : vx_Run p l e R s m args below meth c H locs cells slots mc ms (F0 m pc ls st0) rest (va_Qi post B A1 a) (vx_X px BX AX) free) (hS : va_S A0 H0 H locs) (hA : ∀ q, q < H.size → A1 q → A0 q) (hf : ∀ q, free q → A0 q) (hAX : ∀ q, q < H.size → AX q → A0 q)
    (kx : ∀ (E : String) (ce : Cell) (q9 : Addr) (u : SX) (t : State) (H1 : Heap) (locs1 : List Loc), t.heap = H1 → s.vm.Alike t.vm → px u → BX E u t → H.size ≤ H1.size → (∀ q : Nat, q < H.size → ¬ AX q → H1[q]? = H[q]?) → va_S A0 H0 H1 locs1 → H1[q9]? = some ce → ce.vm = .none → s.vm.findClass E = some ce.cls → vx_W p l e R s m args below meth c H1 locs1 (cells + mc) (slots + ms) Q (F0 m pc ls rest) q9)
    (kk : ∀ (r : Int32) (u : S) (t : State) (H1 : Heap) (locs1 : List Loc), t.heap = H1 → s.vm.Alike t.vm → post r u → B u t → H.size ≤ H1.size → (∀ q : Nat, q < H.size → ¬ A1 q → H1[q]? = H[q]?) → va_S A0 H0 H1 locs1 → W p l e R s m args below meth c H1 locs1 (cells + mc) (slots + ms) Q (F0 m (pc + 3) ls (.int r :: rest))) : W p l e R s m args below meth c H locs cells slots Q (F0 m pc ls st0) := by
  intro T hT X
  rcases hr T hT X with ⟨v, st₀, t, T', L, h0, X', hL, e1, e2, ⟨⟨r, u, hv, hp, hb⟩, hF⟩, st⟩ | ⟨q, st₀, t, T', L, E, ce, h0, X', hL, e1, e2, ⟨u, hp, hb, hF⟩, hce, hcv, hcl, st⟩
  · cases hv
    obtain ⟨k1, k2, k3⟩ := vx_keep h0 e1 hS hA hf hL hF
    obtain ⟨t2, a1, b1⟩ := kk r u t T'.heap (locs ++ L) e1.symm (by rw [← e2]; exact X'.warmed.alike) hp hb k1 k2 k3 T' rfl X'
    exact ⟨t2, st t2 a1, b1⟩
  · obtain ⟨k1, k2, k3⟩ := vx_keep h0 e1 hS hAX hf hL hF
    obtain ⟨t2, a1, b1⟩ := kx E ce q u t T'.heap (locs ++ L) e1.symm (by rw [← e2]; exact X'.warmed.alike) hp hb k1 k2 k3 (by rw [e1]; exact hce) hcv hcl T' rfl X'
    exact ⟨t2, st.trans a1, b1⟩
theorem vx_calll {S SX : Type} {post : Int64 → S → Prop} {px : SX → Prop} {B : S → State → Prop} {BX : String → SX → State → Prop} {AX : Nat → Prop} (hr : vx_Run p l e R s m args below meth c H locs cells slots mc ms (F0 m pc ls st0) rest (va_Ql post B A1 a) (vx_X px BX AX) free) (hS : va_S A0 H0 H locs) (hA : ∀ q, q < H.size → A1 q → A0 q) (hf : ∀ q, free q → A0 q) (hAX : ∀ q, q < H.size → AX q → A0 q)
    (kx : ∀ (E : String) (ce : Cell) (q9 : Addr) (u : SX) (t : State) (H1 : Heap) (locs1 : List Loc), t.heap = H1 → s.vm.Alike t.vm → px u → BX E u t → H.size ≤ H1.size → (∀ q : Nat, q < H.size → ¬ AX q → H1[q]? = H[q]?) → va_S A0 H0 H1 locs1 → H1[q9]? = some ce → ce.vm = .none → s.vm.findClass E = some ce.cls → vx_W p l e R s m args below meth c H1 locs1 (cells + mc) (slots + ms) Q (F0 m pc ls rest) q9)
    (kk : ∀ (r : Int64) (u : S) (t : State) (H1 : Heap) (locs1 : List Loc), t.heap = H1 → s.vm.Alike t.vm → post r u → B u t → H.size ≤ H1.size → (∀ q : Nat, q < H.size → ¬ A1 q → H1[q]? = H[q]?) → va_S A0 H0 H1 locs1 → W p l e R s m args below meth c H1 locs1 (cells + mc) (slots + ms) Q (F0 m (pc + 3) ls (.long r :: rest))) : W p l e R s m args below meth c H locs cells slots Q (F0 m pc ls st0) := by
  intro T hT X
  rcases hr T hT X with ⟨v, st₀, t, T', L, h0, X', hL, e1, e2, ⟨⟨r, u, hv, hp, hb⟩, hF⟩, st⟩ | ⟨q, st₀, t, T', L, E, ce, h0, X', hL, e1, e2, ⟨u, hp, hb, hF⟩, hce, hcv, hcl, st⟩
  · cases hv
    obtain ⟨k1, k2, k3⟩ := vx_keep h0 e1 hS hA hf hL hF
    obtain ⟨t2, a1, b1⟩ := kk r u t T'.heap (locs ++ L) e1.symm (by rw [← e2]; exact X'.warmed.alike) hp hb k1 k2 k3 T' rfl X'
    exact ⟨t2, st t2 a1, b1⟩
  · obtain ⟨k1, k2, k3⟩ := vx_keep h0 e1 hS hAX hf hL hF
    obtain ⟨t2, a1, b1⟩ := kx E ce q u t T'.heap (locs ++ L) e1.symm (by rw [← e2]; exact X'.warmed.alike) hp hb k1 k2 k3 (by rw [e1]; exact hce) hcv hcl T' rfl X'
    exact ⟨t2, st.trans a1, b1⟩
theorem vx_callf {S SX : Type} {post : UInt32 → S → Prop} {px : SX → Prop} {B : S → State → Prop} {BX : String → SX → State → Prop} {AX : Nat → Prop} (hr : vx_Run p l e R s m args below meth c H locs cells slots mc ms (F0 m pc ls st0) rest (va_Qf post B A1 a) (vx_X px BX AX) free) (hS : va_S A0 H0 H locs) (hA : ∀ q, q < H.size → A1 q → A0 q) (hf : ∀ q, free q → A0 q) (hAX : ∀ q, q < H.size → AX q → A0 q)
    (kx : ∀ (E : String) (ce : Cell) (q9 : Addr) (u : SX) (t : State) (H1 : Heap) (locs1 : List Loc), t.heap = H1 → s.vm.Alike t.vm → px u → BX E u t → H.size ≤ H1.size → (∀ q : Nat, q < H.size → ¬ AX q → H1[q]? = H[q]?) → va_S A0 H0 H1 locs1 → H1[q9]? = some ce → ce.vm = .none → s.vm.findClass E = some ce.cls → vx_W p l e R s m args below meth c H1 locs1 (cells + mc) (slots + ms) Q (F0 m pc ls rest) q9)
    (kk : ∀ (r : UInt32) (u : S) (t : State) (H1 : Heap) (locs1 : List Loc), t.heap = H1 → s.vm.Alike t.vm → post r u → B u t → H.size ≤ H1.size → (∀ q : Nat, q < H.size → ¬ A1 q → H1[q]? = H[q]?) → va_S A0 H0 H1 locs1 → W p l e R s m args below meth c H1 locs1 (cells + mc) (slots + ms) Q (F0 m (pc + 3) ls (.float r :: rest))) : W p l e R s m args below meth c H locs cells slots Q (F0 m pc ls st0) := by
  intro T hT X
  rcases hr T hT X with ⟨v, st₀, t, T', L, h0, X', hL, e1, e2, ⟨⟨r, u, hv, hp, hb⟩, hF⟩, st⟩ | ⟨q, st₀, t, T', L, E, ce, h0, X', hL, e1, e2, ⟨u, hp, hb, hF⟩, hce, hcv, hcl, st⟩
  · cases hv
    obtain ⟨k1, k2, k3⟩ := vx_keep h0 e1 hS hA hf hL hF
    obtain ⟨t2, a1, b1⟩ := kk r u t T'.heap (locs ++ L) e1.symm (by rw [← e2]; exact X'.warmed.alike) hp hb k1 k2 k3 T' rfl X'
    exact ⟨t2, st t2 a1, b1⟩
  · obtain ⟨k1, k2, k3⟩ := vx_keep h0 e1 hS hAX hf hL hF
    obtain ⟨t2, a1, b1⟩ := kx E ce q u t T'.heap (locs ++ L) e1.symm (by rw [← e2]; exact X'.warmed.alike) hp hb k1 k2 k3 (by rw [e1]; exact hce) hcv hcl T' rfl X'
    exact ⟨t2, st.trans a1, b1⟩
theorem vx_calld {S SX : Type} {post : UInt64 → S → Prop} {px : SX → Prop} {B : S → State → Prop} {BX : String → SX → State → Prop} {AX : Nat → Prop} (hr : vx_Run p l e R s m args below meth c H locs cells slots mc ms (F0 m pc ls st0) rest (va_Qd post B A1 a) (vx_X px BX AX) free) (hS : va_S A0 H0 H locs) (hA : ∀ q, q < H.size → A1 q → A0 q) (hf : ∀ q, free q → A0 q) (hAX : ∀ q, q < H.size → AX q → A0 q)
    (kx : ∀ (E : String) (ce : Cell) (q9 : Addr) (u : SX) (t : State) (H1 : Heap) (locs1 : List Loc), t.heap = H1 → s.vm.Alike t.vm → px u → BX E u t → H.size ≤ H1.size → (∀ q : Nat, q < H.size → ¬ AX q → H1[q]? = H[q]?) → va_S A0 H0 H1 locs1 → H1[q9]? = some ce → ce.vm = .none → s.vm.findClass E = some ce.cls → vx_W p l e R s m args below meth c H1 locs1 (cells + mc) (slots + ms) Q (F0 m pc ls rest) q9)
    (kk : ∀ (r : UInt64) (u : S) (t : State) (H1 : Heap) (locs1 : List Loc), t.heap = H1 → s.vm.Alike t.vm → post r u → B u t → H.size ≤ H1.size → (∀ q : Nat, q < H.size → ¬ A1 q → H1[q]? = H[q]?) → va_S A0 H0 H1 locs1 → W p l e R s m args below meth c H1 locs1 (cells + mc) (slots + ms) Q (F0 m (pc + 3) ls (.double r :: rest))) : W p l e R s m args below meth c H locs cells slots Q (F0 m pc ls st0) := by
  intro T hT X
  rcases hr T hT X with ⟨v, st₀, t, T', L, h0, X', hL, e1, e2, ⟨⟨r, u, hv, hp, hb⟩, hF⟩, st⟩ | ⟨q, st₀, t, T', L, E, ce, h0, X', hL, e1, e2, ⟨u, hp, hb, hF⟩, hce, hcv, hcl, st⟩
  · cases hv
    obtain ⟨k1, k2, k3⟩ := vx_keep h0 e1 hS hA hf hL hF
    obtain ⟨t2, a1, b1⟩ := kk r u t T'.heap (locs ++ L) e1.symm (by rw [← e2]; exact X'.warmed.alike) hp hb k1 k2 k3 T' rfl X'
    exact ⟨t2, st t2 a1, b1⟩
  · obtain ⟨k1, k2, k3⟩ := vx_keep h0 e1 hS hAX hf hL hF
    obtain ⟨t2, a1, b1⟩ := kx E ce q u t T'.heap (locs ++ L) e1.symm (by rw [← e2]; exact X'.warmed.alike) hp hb k1 k2 k3 (by rw [e1]; exact hce) hcv hcl T' rfl X'
    exact ⟨t2, st.trans a1, b1⟩
theorem vx_callv {S SX : Type} {post : S → Prop} {px : SX → Prop} {B : S → State → Prop} {BX : String → SX → State → Prop} {AX : Nat → Prop} (hr : vx_Run p l e R s m args below meth c H locs cells slots mc ms (F0 m pc ls st0) rest (va_Qv post B A1 a) (vx_X px BX AX) free) (hS : va_S A0 H0 H locs) (hA : ∀ q, q < H.size → A1 q → A0 q) (hf : ∀ q, free q → A0 q) (hAX : ∀ q, q < H.size → AX q → A0 q)
    (kx : ∀ (E : String) (ce : Cell) (q9 : Addr) (u : SX) (t : State) (H1 : Heap) (locs1 : List Loc), t.heap = H1 → s.vm.Alike t.vm → px u → BX E u t → H.size ≤ H1.size → (∀ q : Nat, q < H.size → ¬ AX q → H1[q]? = H[q]?) → va_S A0 H0 H1 locs1 → H1[q9]? = some ce → ce.vm = .none → s.vm.findClass E = some ce.cls → vx_W p l e R s m args below meth c H1 locs1 (cells + mc) (slots + ms) Q (F0 m pc ls rest) q9)
    (kk : ∀ (u : S) (t : State) (H1 : Heap) (locs1 : List Loc), t.heap = H1 → s.vm.Alike t.vm → post u → B u t → H.size ≤ H1.size → (∀ q : Nat, q < H.size → ¬ A1 q → H1[q]? = H[q]?) → va_S A0 H0 H1 locs1 → W p l e R s m args below meth c H1 locs1 (cells + mc) (slots + ms) Q (F0 m (pc + 3) ls (rest))) : W p l e R s m args below meth c H locs cells slots Q (F0 m pc ls st0) := by
  intro T hT X
  rcases hr T hT X with ⟨v, st₀, t, T', L, h0, X', hL, e1, e2, ⟨⟨u, hv, hp, hb⟩, hF⟩, st⟩ | ⟨q, st₀, t, T', L, E, ce, h0, X', hL, e1, e2, ⟨u, hp, hb, hF⟩, hce, hcv, hcl, st⟩
  · cases hv
    obtain ⟨k1, k2, k3⟩ := vx_keep h0 e1 hS hA hf hL hF
    obtain ⟨t2, a1, b1⟩ := kk u t T'.heap (locs ++ L) e1.symm (by rw [← e2]; exact X'.warmed.alike) hp hb k1 k2 k3 T' rfl X'
    exact ⟨t2, st t2 a1, b1⟩
  · obtain ⟨k1, k2, k3⟩ := vx_keep h0 e1 hS hAX hf hL hF
    obtain ⟨t2, a1, b1⟩ := kx E ce q u t T'.heap (locs ++ L) e1.symm (by rw [← e2]; exact X'.warmed.alike) hp hb k1 k2 k3 (by rw [e1]; exact hce) hcv hcl T' rfl X'
    exact ⟨t2, st.trans a1, b1⟩
end Rows
section Ends
variable {p : Program} {l : Launch} {e : Env} {R : Room} {s : State} {m : MethodId} {args : Array Value} {below : List Frame} {meth : Method} {c : Code} {H : Heap} {locs : List Loc} {cells slots : Nat} {Q : State → Prop}
variable {mc ms : Nat} {free : Addr → Prop} {A0 A1 : Nat → Prop} {H0 : Heap} {a : Array Value} {ls : Array Slot} {st0 rest : List Value}
variable {Qc : Array Value → State → Outcome → State → Prop} {XC : String → State → State → Prop}
/-- what a body that may throw owes at its end -/
def vx_MQ (below : List Frame) (Qc : Array Value → State → Outcome → State → Prop) (XC : String → State → State → Prop) (a : Array Value) (s : State) (mc ms : Nat) (free : Addr → Prop) : State → Prop := fun t =>
  ∃ o, t.status = .running ∧ Ended t below o ∧ vx_Q Qc XC mc ms free a s o t
theorem vx_ret {g : JFrame} {mc ms : Nat} (k : W p l e R s m args below meth c H locs cells slots (MQ below Qc args s mc ms free) g) : W p l e R s m args below meth c H locs cells slots (vx_MQ below Qc XC args s mc ms free) g := by
  intro T hT X
  obtain ⟨t, a1, o, b1, b2, b3, b4⟩ := k T hT X
  exact ⟨t, a1, o, b1, b2, Or.inl ⟨b3, b4⟩⟩
/-- not caught here: it goes on to the caller -/
theorem vx_widen {g : JFrame} {q : Addr} {k n : Nat} (h1 : cells ≤ k) (h2 : slots ≤ n) (kk : vx_W p l e R s m args below meth c H locs k n Q g q) : vx_W p l e R s m args below meth c H locs cells slots Q g q := fun T hT X => kk T hT (stand_widen X h1 h2)
theorem vx_out {pc : Nat} {E : String} {ce : Cell} {q : Addr} {mc ms : Nat} (hout : ∀ x ∈ c.exceptionTable.toList, covers x pc = false) (hlocks : meth.locks = false) (hcell : H[q]? = some ce) (hv : ce.vm = .none) (hcl : s.vm.findClass E = some ce.cls)
    (hx : ∀ t : State, t.heap = H → s.vm.Alike t.vm → XC E s t) (hf : ∀ z ∈ locs, free z.base) (hc : cells ≤ mc) (hs : slots ≤ ms) :
    vx_W p l e R s m args below meth c H locs cells slots (vx_MQ below Qc XC args s mc ms free) (F0 m pc ls rest) q := by
  intro T hT X
  obtain ⟨st1, hrun, hend, hW, hsm⟩ := X.leaveThrown q (g := F0 m pc ls rest) rfl rfl rfl hout hlocks
  have hcell9 : (T.setFrames (.throwing q :: below)).heap[q]? = some ce := by
    show T.heap[q]? = some ce
    rw [hT]; exact hcell
  exact ⟨_, st1, .threw q, hrun, hend, Or.inr ⟨q, rfl, E, ce, locs, hx _ hT hW.alike, hcell9, hv, hcl, hW, hsm.mono hc hs, hf⟩⟩
theorem vx_frame {U : State} {k n : Nat} (h : s.sameButNew ({ U with vm := s.vm } : State) locs k n) : s.heap.size ≤ U.heap.size ∧ ∀ q : Nat, q < s.heap.size → (∀ z ∈ locs, z.base ≠ q) → U.heap[q]? = s.heap[q]? := by
  obtain ⟨-, h2, -, -, -, h6⟩ := h
  refine ⟨h2, fun q hq hz => ?_⟩
  obtain ⟨c9, e1, e2, e3, e4⟩ := h6 q _ (Array.getElem?_eq_getElem hq)
  have hs : c9.slots = (s.heap[q]).slots := Array.ext_getElem? fun i => e4 i fun hm => hz _ hm rfl
  have h9 : c9 = s.heap[q] := by
    rw [hs] at e2
    exact e2
  have e5 : U.heap[q]? = some c9 := e1
  rw [e5, h9, Array.getElem?_eq_getElem hq]
/-- the words of a throw but the four that speak of the heap -/
def vx_no (w : Cond) : Bool := decide (w ≠ .isRef (.static Bundle.tN "UNASSIGNED_STACK" Bundle.steD)) && decide (w ≠ .isRef (.static Bundle.tN "SUPPRESSED_SENTINEL" Bundle.listD)) && decide (w ≠ .laysStatic Bundle.tN "UNASSIGNED_STACK" Bundle.steD) && decide (w ≠ .laysStatic Bundle.tN "SUPPRESSED_SENTINEL" Bundle.listD)
def vx_at0 (own : String) (ic : Nat) (X : String) (names : List String) : List Cond := (Bundle.ownAtoms0 own ic X names).filter vx_no
def vx_atS (own : String) (ic : Nat) (X : String) (names : List String) : List Cond := (Bundle.ownAtoms own ic X names).filter vx_no
/-- a word that the tables alone decide, or a good one -/
def vx_ot (w : Cond) : Bool := w.onTables || goodWord w
theorem vx_ot_at {args a' : Array Value} {s U : State} {w : Cond} (hW : s.WarmedH U.vm) (hvm : s.vm = U.vm) (hg : vx_ot w = true) (h : w.before args s = true) : w.before a' U = true := by
  simp only [vx_ot, Bool.or_eq_true] at hg
  rcases hg with hg | hg
  · exact va_tabs hg hvm h
  · exact word_at hW (good_of_word hg) h
/-- a list's words: the good ones out of the method's own list, the others by premises of their own -/
theorem vx_hat {args : Array Value} {s : State} {L B : List Cond} (h1 : ∀ w ∈ L.filter goodWord, w.before args s = true) (h2 : ∀ w ∈ L.filter (fun w => !goodWord w), w ∈ B) (h3 : ∀ w ∈ B, w.before args s = true) : ∀ w ∈ L, w.before args s = true := by
  intro w hw
  by_cases g : goodWord w = true
  · exact h1 w (List.mem_filter.mpr ⟨hw, g⟩)
  · refine h3 w (h2 w (List.mem_filter.mpr ⟨hw, ?_⟩))
    show (!goodWord w) = true
    cases hgw : goodWord w
    · rfl
    · exact absurd hgw g
theorem vx_c {args : Array Value} {s : State} {w : Cond} {B : List Cond} (h : w.before args s = true) (t : ∀ w ∈ B, w.before args s = true) : ∀ w' ∈ w :: B, w'.before args s = true := fun w' h' => (List.mem_cons.mp h').elim (fun e => by rw [e]; exact h) (t w')
theorem vx_n {args : Array Value} {s : State} : ∀ w ∈ ([] : List Cond), w.before args s = true := fun _ h => nomatch h
theorem vx_own {args : Array Value} {s : State} {L : List Cond} (h1 : ∀ w ∈ L.filter vx_no, w.before args s = true)
    (hU : (Cond.isRef (.static Bundle.tN "UNASSIGNED_STACK" Bundle.steD)).before args s = true) (hN : (Cond.isRef (.static Bundle.tN "SUPPRESSED_SENTINEL" Bundle.listD)).before args s = true)
    (lU : (Cond.laysStatic Bundle.tN "UNASSIGNED_STACK" Bundle.steD).before args s = true) (lN : (Cond.laysStatic Bundle.tN "SUPPRESSED_SENTINEL" Bundle.listD).before args s = true) : ∀ w ∈ L, w.before args s = true := by
  intro w hw
  by_cases e1 : w = .isRef (.static Bundle.tN "UNASSIGNED_STACK" Bundle.steD)
  · rw [e1]; exact hU
  · by_cases e2 : w = .isRef (.static Bundle.tN "SUPPRESSED_SENTINEL" Bundle.listD)
    · rw [e2]; exact hN
    · by_cases e3 : w = .laysStatic Bundle.tN "UNASSIGNED_STACK" Bundle.steD
      · rw [e3]; exact lU
      · by_cases e4 : w = .laysStatic Bundle.tN "SUPPRESSED_SENTINEL" Bundle.listD
        · rw [e4]; exact lN
        · exact h1 w (List.mem_filter.mpr ⟨hw, by unfold vx_no; rw [decide_eq_true e1, decide_eq_true e2, decide_eq_true e3, decide_eq_true e4]; rfl⟩)
/-- where a static field lies, its class's statics cell in H -/
def vx_L (C n d : String) (A : Nat → Prop) (U : State) (H : Heap) : Prop := ∃ (c : ClassId) (k : Class) (i : Nat) (f : Field) (a : Nat) (cell : Cell), U.vm.findClass C = some c ∧ U.fieldFound? C n d = some (c, k, i, f) ∧ f.isStatic = true ∧ k.statics = some a ∧ H[a]? = some cell ∧ cell.vm.isStatics = true ∧ cell.cls = c ∧ f.slot < cell.slots.size ∧ k.staticTypes[f.slot]? = some f.type ∧ ¬ A a
theorem vx_L.moved {C n d : String} {A : Nat → Prop} {u U : State} {H : Heap} (hvm : u.vm.Alike U.vm) (h : vx_L C n d A u H) : vx_L C n d A U H := by
  obtain ⟨c, k, i, f, a, cell, h1, h2, h3, h4, h5, h6, h7, h8, h9, h10⟩ := h
  obtain ⟨k', hi', he⟩ := State.fieldFound?_setVm hvm h2
  exact ⟨c, k', i, f, a, cell, by rw [hvm.findClass]; exact h1, hi', h3, by rw [he]; exact h4, h5, h6, h7, h8, by rw [he]; exact h9, h10⟩
theorem vx_L.kept {C n d : String} {A : Nat → Prop} {U : State} {H H1 : Heap} (h : vx_L C n d A U H) (hq : ∀ a : Nat, a < H.size → ¬ A a → H1[a]? = H[a]?) : vx_L C n d A U H1 := by
  obtain ⟨c, k, i, f, a, cell, h1, h2, h3, h4, h5, h6, h7, h8, h9, h10⟩ := h
  exact ⟨c, k, i, f, a, cell, h1, h2, h3, h4, by rw [hq a (Array.getElem?_eq_some_iff.mp h5).1 h10]; exact h5, h6, h7, h8, h9, h10⟩
theorem vx_L.narrow {C n d : String} {A B : Nat → Prop} {U : State} {H : Heap} (h : vx_L C n d A U H) (hAB : ∀ q, B q → A q) : vx_L C n d B U H := by
  obtain ⟨c, k, i, f, a, cell, h1, h2, h3, h4, h5, h6, h7, h8, h9, h10⟩ := h
  exact ⟨c, k, i, f, a, cell, h1, h2, h3, h4, h5, h6, h7, h8, h9, fun z => h10 (hAB _ z)⟩
theorem vx_L.word {C n d : String} {A : Nat → Prop} {s : State} {args : Array Value} (h : vx_L C n d A s s.heap) : (Cond.laysStatic C n d).before args s = true := by
  obtain ⟨c, k, i, f, a, cell, h1, h2, h3, h4, h5, h6, h7, h8, h9, -⟩ := h
  show (Cond.laysStatic C n d).holds args s none s [] = true
  exact Cond.laysStatic_of h1 h2 h3 h4 h5 h6 h7 h8 h9
/-- .. and what it holds: null or some reference -/
def vx_Zq (C n d : String) (A : Nat → Prop) (U : State) (H : Heap) : Prop := va_Zq C n d A U H ∧ vx_L C n d A U H
theorem vx_Zq.moved {C n d : String} {A : Nat → Prop} {u U : State} {H : Heap} (hvm : u.vm.Alike U.vm) (h : vx_Zq C n d A u H) : vx_Zq C n d A U H := ⟨va_Zq.moved hvm h.1, vx_L.moved hvm h.2⟩
theorem vx_Zq.kept {C n d : String} {A : Nat → Prop} {U : State} {H H1 : Heap} (h : vx_Zq C n d A U H) (hq : ∀ a : Nat, a < H.size → ¬ A a → H1[a]? = H[a]?) : vx_Zq C n d A U H1 := ⟨va_Zq.kept h.1 hq, vx_L.kept h.2 hq⟩
theorem vx_Zq.narrow {C n d : String} {A B : Nat → Prop} {U : State} {H : Heap} (h : vx_Zq C n d A U H) (hAB : ∀ q, B q → A q) : vx_Zq C n d B U H := ⟨va_Zq.narrow h.1 hAB, vx_L.narrow h.2 hAB⟩
theorem vx_Zqof {args : Array Value} {s : State} {C n d : String} {A : Nat → Prop} (hl : (Cond.laysStatic C n d).before args s = true) (hini : (Cond.initialized C).before args s = true) (h : (Cond.isRef (.static C n d)).before args s = true) (hA : ∀ a : Nat, a < s.heap.size → ¬ A a) : vx_Zq C n d A s s.heap := by
  refine ⟨va_Zqof hl hini h hA, ?_⟩
  obtain ⟨c, k, i, f, a, cell, h1, h2, h3, h4, h5, h6, h7, h8, h9⟩ := Cond.laysStatic_spec hl
  exact ⟨c, k, i, f, a, cell, h1, h2, h3, h4, h5, h6, h7, h8, h9, hA a (Array.getElem?_eq_some_iff.mp h5).1⟩
theorem vx_isRef {C n d : String} {v : Value} {A : Nat → Prop} {s : State} {args : Array Value} (h : va_Z C n d v A s s.heap) (hv : v.isRef = true) : (Cond.isRef (.static C n d)).before args s = true := by
  obtain ⟨cf, kf, fi, f, a, cell, h1, h2, h3, h4, h5, h6, h7, -⟩ := h
  have he : (Term.static C n d).eval args s none [] s = some v := by
    simp [Term.eval, State.fieldNamed?, h1, h2, h4, h5, h6, h7]
  simp only [Cond.before, Cond.holds, Cond.value, he]
  cases v <;> simp_all [Value.isRef]
theorem vx_isRefq {C n d : String} {A : Nat → Prop} {s : State} {args : Array Value} (h : va_Zq C n d A s s.heap) : (Cond.isRef (.static C n d)).before args s = true := by
  rcases h with h | ⟨t, h⟩
  · exact vx_isRef h rfl
  · exact vx_isRef h rfl
/-- the same frame, seen from here: as if the method were called anew in this heap -/
theorem vx_rebase {T : State} (X : Stand p l e R s m args below meth c T locs cells slots) {R' : Room} (hf : R'.frames ≤ R.frames) (hl : R'.locals ≤ R.locals) (hc : cells + R'.cells ≤ R.cells) (hs : slots + R'.slots ≤ R.slots) :
    Stand p l e R' ((T.setVm s.vm).setFrames (.invoking m args :: below)) m args below meth c T [] 0 0 := by
  have htop : (T.setVm s.vm).topJava?.isSome := X.here.top
  have hF : ((T.setVm s.vm).setFrames (.invoking m args :: below)).frames = .invoking m args :: below := State.frames_setFrames _ (State.cur_lt_of_top htop)
  obtain ⟨g₀, hg0⟩ := Option.isSome_iff_exists.mp htop
  obtain ⟨r, hr⟩ := State.topJava?_eq_some.mp hg0
  have hl9 : e.platform.stackLimits (T.setVm s.vm).me = e.platform.stackLimits s.me := X.limits
  have hb9 : (T.setVm s.vm).me.stackBytes = s.me.stackBytes := X.bytes
  refine ⟨X.admits, X.cas, X.clock, hF, ?_, X.hears, X.method, X.code, X.here, X.tail, X.warmed, ?_, ?_, ?_⟩
  · have h := X.room
    have hU : ((T.setVm s.vm).setFrames (.invoking m args :: below)).localsInUse = s.localsInUse := by
      rw [State.localsInUse_invoking hF (meth := meth) (c := c) X.method X.code, State.localsInUse_invoking X.frames X.method X.code]
    simp only [State.hasRoom, Bool.and_eq_true, decide_eq_true_eq] at h ⊢
    obtain ⟨⟨⟨⟨h1, h2, h3, h4, h5, h6⟩, h7⟩, h8⟩, h9⟩ := h
    rw [X.frames, List.length_cons] at h2 h3
    have q1 := X.heapSize
    have q2 := X.used
    simp only [hF, hU, List.length_cons, State.stackLimits_setFrames, State.stackBytes_setFrames, hl9, hb9]
    refine ⟨⟨⟨⟨by omega, by omega, by omega, by omega, by omega, h6⟩, ?_⟩, ?_⟩, X.book⟩
    · show T.heap.size + R'.cells ≤ e.platform.maxCells
      omega
    · show T.slotsUsed + R'.slots ≤ e.platform.maxSlots
      omega
  · rw [State.stackLimits_setFrames]; rfl
  · rw [State.stackBytes_setFrames]; rfl
  · refine ⟨?_, Nat.le_refl _, Nat.le_refl _, ?_, ?_, fun a c9 h9 => ⟨c9, h9, rfl, rfl, fun _ _ => rfl⟩⟩
    · obtain ⟨t, ht, -⟩ := State.frames_cons hr
      show T.setVm s.vm = { ((T.setVm s.vm).setFrames (.invoking m args :: below)).setFrames (T.setVm s.vm).frames with heap := T.heap, slotsUsed := T.slotsUsed }
      rw [State.setFrames_setFrames, State.setFrames_self ht]
      rfl
    · show T.slotsUsed = T.slotsUsed + ((T.heap.toList.drop T.heap.size).map (·.slots.size)).sum
      rw [List.drop_eq_nil_of_le (Nat.le_of_eq Array.length_toList)]
      rfl
    · show ((T.heap.toList.drop T.heap.size).map (·.slots.size)).sum ≤ 0
      rw [List.drop_eq_nil_of_le (Nat.le_of_eq Array.length_toList)]
      exact Nat.le_refl _
/-- 'throw new E()': new; dup; invokespecial; athrow -/
theorem vx_throw0 {cc : ByteArray} {pc : Nat} (hexec : p.tables.exec = Jvm.exec) (hb : c.code = cc) (hl : l.stackTraces = false) {own cls : String} {names : List String} {ik ic mc ms : Nat} {A : Nat → Prop}
    (hown : s.vm.findClass own = some m.cls) (hcls : Bundle.fit cls = true) (hnames : ∀ n ∈ names, Bundle.fit n = true)
    (hk : (Cond.classLink own ik cls).before args s = true) (hini : (Cond.initialized cls).before args s = true) (hat : ∀ w ∈ vx_at0 own ic cls names, w.before args s = true)
    (hgood : ∀ w ∈ Cond.classLink own ik cls :: Cond.initialized cls :: vx_at0 own ic cls names, vx_ot w = true)
    (hU : vx_Zq Bundle.tN "UNASSIGNED_STACK" Bundle.steD A s s.heap) (hN : vx_Zq Bundle.tN "SUPPRESSED_SENTINEL" Bundle.listD A s s.heap) (hS : va_S A s.heap H locs) (hsize : ls.size = c.maxLocals)
    (d0 : decode cc pc = .ok (.new ik, 3)) (d3 : decode cc (pc + 3) = .ok (.dup, 1)) (d4 : decode cc (pc + 4) = .ok (.invokespecial ic, 3)) (d7 : decode cc (pc + 7) = .ok (.athrow, 1))
    (hout : ∀ x ∈ c.exceptionTable.toList, covers x (pc + 7) = false)
    (hRframes : names.length + 3 < R.frames) (hRlocals : (rest.map fun v => v.category).sum + (13 * (names.length + 1) + 42) ≤ R.locals) (hRcells : cells + 1 ≤ R.cells) (hRslots : slots + 6 ≤ R.slots) (hlocks : meth.locks = false)
    (hx : ∀ t : State, s.vm.Alike t.vm → H.size ≤ t.heap.size → (∀ q : Nat, q < H.size → t.heap[q]? = H[q]?) → XC cls s t)
    (hf : ∀ z ∈ locs, free z.base) (hc : cells + 1 ≤ mc) (hs : slots + 6 ≤ ms) :
    W p l e R s m args below meth c H locs cells slots (vx_MQ below Qc XC args s mc ms free) (F0 m pc ls rest) := by
  intro T hT X
  have htr : e.platform.stackTraces = false := (show e.platform.stackTraces = l.stackTraces by rw [X.admits.platform]).trans hl
  have Y := vx_rebase X (R' := { frames := R.frames, locals := R.locals, cells := 1, slots := 6 }) (Nat.le_refl _) (Nat.le_refl _) hRcells hRslots
  obtain ⟨s', hA⟩ : ∃ z, z = (T.setVm s.vm).setFrames (.invoking m args :: below) := ⟨_, rfl⟩
  rw [← hA] at Y
  have hvm : s'.vm = s.vm := by rw [hA]; rfl
  have hhp : s'.heap = H := by rw [hA]; exact hT
  have hW0 : s.WarmedH s'.vm := by rw [hvm]; exact State.WarmedH.refl s
  have hat' : ∀ w ∈ vx_at0 own ic cls names, w.before args s' = true := fun w hw => vx_ot_at hW0 hvm.symm (hgood w (List.mem_cons_of_mem _ (List.mem_cons_of_mem _ hw))) (hat w hw)
  have hk' : (Cond.classLink own ik cls).before args s' = true := vx_ot_at hW0 hvm.symm (hgood _ List.mem_cons_self) hk
  have hini' : (Cond.initialized cls).before args s' = true := vx_ot_at hW0 hvm.symm (hgood _ (List.mem_cons_of_mem _ List.mem_cons_self)) hini
  have hU' : vx_Zq Bundle.tN "UNASSIGNED_STACK" Bundle.steD A s' s'.heap := by rw [hhp]; exact vx_Zq.moved hW0.alike (hU.kept hS.2.1)
  have hN' : vx_Zq Bundle.tN "SUPPRESSED_SENTINEL" Bundle.listD A s' s'.heap := by rw [hhp]; exact vx_Zq.moved hW0.alike (hN.kept hS.2.1)
  have h : ∀ w ∈ Bundle.ownAtoms0 own ic cls names, w.before args s' = true := vx_own hat' (vx_isRefq hU'.1) (vx_isRefq hN'.1) hU'.2.word hN'.2.word
  have hown' : s'.vm.findClass own = some m.cls := by rw [hvm]; exact hown
  have hins : (Cond.instantiable cls 6).before args s' = true := h _ (by simp [Bundle.ownAtoms0])
  obtain ⟨vm₁, cX, kX, hfX, hkX, -, -, X₁, st1⟩ := Y.newCold hexec (own := own) (C := cls) (index := ik) (n := 6) hown' hk' hins hini'
    (g := F0 m pc ls rest) rfl (by rw [hb]; exact d0) (Nat.le_refl _) (Nat.le_refl _)
  generalize hT1 : (T.setVm vm₁).pushCell { cls := cX, slots := kX.instanceTypes.map defaultValue, vm := .none } = T1 at X₁ st1
  have hcat : (Value.ref T.heap.size).category = 1 := rfl
  have hcellA : T1.heap[T.heap.size]? = some (freshCell cX kX) := by rw [← hT1]; exact State.heap_pushCell_size _ _
  have d3' : decode c.code (pc + 3) = .ok (.dup, 1) := by rw [hb]; exact d3
  obtain ⟨U, hsteps, hrun, hend, hW, hsame, ce, hce, hO⟩ := X₁.ctorThrow0 hexec htr (own := own) (cls := cls) (names := names) (ic := ic) hown' hcls hnames h (fun x hx => nomatch hx) hfX hkX hcellA (by rw [hhp, hT]; exact Nat.le_refl _)
    (g := { method := m, pc := pc + 4, locals := ls, stack := .ref T.heap.size :: .ref T.heap.size :: rest, locked := none }) rfl hsize rfl rfl (rest := rest) rfl
    (by rw [hb]; exact d4) (by rw [hb]; exact d7) hout hRframes (by simp only [List.map_cons, List.sum_cons, hcat]; omega) hlocks
  obtain ⟨f1, f2⟩ := vx_frame hsame
  rw [hhp] at f1 f2
  have hWs : s.WarmedH U.vm := State.WarmedH.trans hW0 hW
  have hcl : s.vm.findClass cls = some ce.cls := by
    have h9 := hO.cls
    rw [hvm] at h9
    exact h9
  have hall : s.sameButNew ({ U with vm := s.vm } : State) locs mc ms := by
    subst hA
    obtain ⟨e1, e2⟩ := hsame
    rw [State.setFrames_setFrames] at e1
    have h2 : (T.setVm s.vm).sameButNew ({ U with vm := s.vm } : State) [] (0 + 1) (0 + 6) := ⟨e1, e2⟩
    have h3 := X.same.trans h2
    rw [List.append_nil] at h3
    exact h3.mono hc hs
  refine ⟨U, ?_, .threw T.heap.size, hrun, hend, Or.inr ⟨T.heap.size, rfl, cls, ce, locs, hx U hWs.alike f1 (fun q hq => f2 q hq (fun z hz => nomatch hz)), hce, hO.vm, hcl, hWs, hall, hf⟩⟩
  refine st1 _ ?_
  show Steps p.tables e below (T1.setTop { method := m, pc := pc + 3, locals := ls, stack := .ref T.heap.size :: rest, locked := none }) _
  jvm_step X₁.here [X₁.here.top, hexec, d3', Value.category]
  exact hsteps
/-- 'throw new E("text")': new; dup; ldc; invokespecial; athrow -/
theorem vx_throwS {cc : ByteArray} {pc : Nat} (hexec : p.tables.exec = Jvm.exec) (hb : c.code = cc) (hl : l.stackTraces = false) {own cls text : String} {names : List String} {ik is ic mc ms sa : Nat} {A : Nat → Prop}
    (hown : s.vm.findClass own = some m.cls) (hcls : Bundle.fit cls = true) (hnames : ∀ n ∈ names, Bundle.fit n = true)
    (hk : (Cond.classLink own ik cls).before args s = true) (hini : (Cond.initialized cls).before args s = true) (hstr : vk_R own is text sa s) (hat : ∀ w ∈ vx_atS own ic cls names, w.before args s = true)
    (hgood : ∀ w ∈ Cond.classLink own ik cls :: Cond.initialized cls :: vx_atS own ic cls names, vx_ot w = true)
    (hU : vx_Zq Bundle.tN "UNASSIGNED_STACK" Bundle.steD A s s.heap) (hN : vx_Zq Bundle.tN "SUPPRESSED_SENTINEL" Bundle.listD A s s.heap) (hS : va_S A s.heap H locs) (hsize : ls.size = c.maxLocals)
    (d0 : decode cc pc = .ok (.new ik, 3)) (d3 : decode cc (pc + 3) = .ok (.dup, 1)) (d4 : decode cc (pc + 4) = .ok (.ldc is, 2)) (d6 : decode cc (pc + 6) = .ok (.invokespecial ic, 3)) (d9 : decode cc (pc + 9) = .ok (.athrow, 1))
    (hout : ∀ x ∈ c.exceptionTable.toList, covers x (pc + 9) = false)
    (hRframes : names.length + 3 < R.frames) (hRlocals : (rest.map fun v => v.category).sum + (13 * (names.length + 1) + 43) ≤ R.locals) (hRcells : cells + 1 ≤ R.cells) (hRslots : slots + 6 ≤ R.slots) (hlocks : meth.locks = false)
    (hx : ∀ t : State, s.vm.Alike t.vm → H.size ≤ t.heap.size → (∀ q : Nat, q < H.size → t.heap[q]? = H[q]?) → XC cls s t)
    (hf : ∀ z ∈ locs, free z.base) (hc : cells + 1 ≤ mc) (hs : slots + 6 ≤ ms) :
    W p l e R s m args below meth c H locs cells slots (vx_MQ below Qc XC args s mc ms free) (F0 m pc ls rest) := by
  intro T hT X
  have htr : e.platform.stackTraces = false := (show e.platform.stackTraces = l.stackTraces by rw [X.admits.platform]).trans hl
  have Y := vx_rebase X (R' := { frames := R.frames, locals := R.locals, cells := 1, slots := 6 }) (Nat.le_refl _) (Nat.le_refl _) hRcells hRslots
  obtain ⟨s', hA⟩ : ∃ z, z = (T.setVm s.vm).setFrames (.invoking m args :: below) := ⟨_, rfl⟩
  rw [← hA] at Y
  have hvm : s'.vm = s.vm := by rw [hA]; rfl
  have hhp : s'.heap = H := by rw [hA]; exact hT
  have hW0 : s.WarmedH s'.vm := by rw [hvm]; exact State.WarmedH.refl s
  have hat' : ∀ w ∈ vx_atS own ic cls names, w.before args s' = true := fun w hw => vx_ot_at hW0 hvm.symm (hgood w (List.mem_cons_of_mem _ (List.mem_cons_of_mem _ hw))) (hat w hw)
  have hk' : (Cond.classLink own ik cls).before args s' = true := vx_ot_at hW0 hvm.symm (hgood _ List.mem_cons_self) hk
  have hini' : (Cond.initialized cls).before args s' = true := vx_ot_at hW0 hvm.symm (hgood _ (List.mem_cons_of_mem _ List.mem_cons_self)) hini
  have hU' : vx_Zq Bundle.tN "UNASSIGNED_STACK" Bundle.steD A s' s'.heap := by rw [hhp]; exact vx_Zq.moved hW0.alike (hU.kept hS.2.1)
  have hN' : vx_Zq Bundle.tN "SUPPRESSED_SENTINEL" Bundle.listD A s' s'.heap := by rw [hhp]; exact vx_Zq.moved hW0.alike (hN.kept hS.2.1)
  have h : ∀ w ∈ Bundle.ownAtoms own ic cls names, w.before args s' = true := vx_own hat' (vx_isRefq hU'.1) (vx_isRefq hN'.1) hU'.2.word hN'.2.word
  have hown' : s'.vm.findClass own = some m.cls := by rw [hvm]; exact hown
  have hins : (Cond.instantiable cls 6).before args s' = true := h _ (by simp [Bundle.ownAtoms])
  obtain ⟨vm₁, cX, kX, hfX, hkX, -, -, X₁, st1⟩ := Y.newCold hexec (own := own) (C := cls) (index := ik) (n := 6) hown' hk' hins hini'
    (g := F0 m pc ls rest) rfl (by rw [hb]; exact d0) (Nat.le_refl _) (Nat.le_refl _)
  generalize hT1 : (T.setVm vm₁).pushCell { cls := cX, slots := kX.instanceTypes.map defaultValue, vm := .none } = T1 at X₁ st1
  have hcat : (Value.ref T.heap.size).category = 1 := rfl
  have hcellA : T1.heap[T.heap.size]? = some (freshCell cX kX) := by rw [← hT1]; exact State.heap_pushCell_size _ _
  have d3' : decode c.code (pc + 3) = .ok (.dup, 1) := by rw [hb]; exact d3
  have d4' : decode c.code (pc + 4) = .ok (.ldc is, 2) := by rw [hb]; exact d4
  have hstr' : vk_R own is text sa s' := vk_R.warm hW0 hstr
  obtain ⟨U, hsteps, hrun, hend, hW, hsame, ce, hce, hO⟩ := X₁.ctorThrowS hexec htr (own := own) (cls := cls) (names := names) (ic := ic) hown' hcls hnames h (fun x hx => nomatch hx) hfX hkX hcellA (by rw [hhp, hT]; exact Nat.le_refl _) (msg := .ref sa) rfl
    (g := { method := m, pc := pc + 6, locals := ls, stack := .ref sa :: .ref T.heap.size :: .ref T.heap.size :: rest, locked := none }) rfl hsize rfl rfl (rest := rest) rfl
    (by rw [hb]; exact d6) (by rw [hb]; exact d9) hout hRframes (by simp only [List.map_cons, List.sum_cons, hcat]; omega) hlocks
  obtain ⟨f1, f2⟩ := vx_frame hsame
  rw [hhp] at f1 f2
  have hWs : s.WarmedH U.vm := State.WarmedH.trans hW0 hW
  have hcl : s.vm.findClass cls = some ce.cls := by
    have h9 := hO.cls
    rw [hvm] at h9
    exact h9
  have hall : s.sameButNew ({ U with vm := s.vm } : State) locs mc ms := by
    subst hA
    obtain ⟨e1, e2⟩ := hsame
    rw [State.setFrames_setFrames] at e1
    have h2 : (T.setVm s.vm).sameButNew ({ U with vm := s.vm } : State) [] (0 + 1) (0 + 6) := ⟨e1, e2⟩
    have h3 := X.same.trans h2
    rw [List.append_nil] at h3
    exact h3.mono hc hs
  refine ⟨U, ?_, .threw T.heap.size, hrun, hend, Or.inr ⟨T.heap.size, rfl, cls, ce, locs, hx U hWs.alike f1 (fun q hq => f2 q hq (fun z hz => nomatch hz)), hce, hO.vm, hcl, hWs, hall, hf⟩⟩
  refine st1 _ ?_
  show Steps p.tables e below (T1.setTop { method := m, pc := pc + 3, locals := ls, stack := .ref T.heap.size :: rest, locked := none }) _
  jvm_step X₁.here [X₁.here.top, hexec, d3', Value.category]
  exact X₁.ldcString hexec (own := own) (text := text) (index := is) (a := sa) hown' hstr'.1 hstr'.2
    (g := { method := m, pc := pc + 4, locals := ls, stack := .ref T.heap.size :: .ref T.heap.size :: rest, locked := none }) rfl d4' _ hsteps
/-- 'throw new E("text")', the text by a wide index -/
theorem vx_throwSW {cc : ByteArray} {pc : Nat} (hexec : p.tables.exec = Jvm.exec) (hb : c.code = cc) (hl : l.stackTraces = false) {own cls text : String} {names : List String} {ik is ic mc ms sa : Nat} {A : Nat → Prop}
    (hown : s.vm.findClass own = some m.cls) (hcls : Bundle.fit cls = true) (hnames : ∀ n ∈ names, Bundle.fit n = true)
    (hk : (Cond.classLink own ik cls).before args s = true) (hini : (Cond.initialized cls).before args s = true) (hstr : vk_R own is text sa s) (hat : ∀ w ∈ vx_atS own ic cls names, w.before args s = true)
    (hgood : ∀ w ∈ Cond.classLink own ik cls :: Cond.initialized cls :: vx_atS own ic cls names, vx_ot w = true)
    (hU : vx_Zq Bundle.tN "UNASSIGNED_STACK" Bundle.steD A s s.heap) (hN : vx_Zq Bundle.tN "SUPPRESSED_SENTINEL" Bundle.listD A s s.heap) (hS : va_S A s.heap H locs) (hsize : ls.size = c.maxLocals)
    (d0 : decode cc pc = .ok (.new ik, 3)) (d3 : decode cc (pc + 3) = .ok (.dup, 1)) (d4 : decode cc (pc + 4) = .ok (.ldc_w is, 3)) (d7 : decode cc (pc + 7) = .ok (.invokespecial ic, 3)) (d10 : decode cc (pc + 10) = .ok (.athrow, 1))
    (hout : ∀ x ∈ c.exceptionTable.toList, covers x (pc + 10) = false)
    (hRframes : names.length + 3 < R.frames) (hRlocals : (rest.map fun v => v.category).sum + (13 * (names.length + 1) + 43) ≤ R.locals) (hRcells : cells + 1 ≤ R.cells) (hRslots : slots + 6 ≤ R.slots) (hlocks : meth.locks = false)
    (hx : ∀ t : State, s.vm.Alike t.vm → H.size ≤ t.heap.size → (∀ q : Nat, q < H.size → t.heap[q]? = H[q]?) → XC cls s t)
    (hf : ∀ z ∈ locs, free z.base) (hc : cells + 1 ≤ mc) (hs : slots + 6 ≤ ms) :
    W p l e R s m args below meth c H locs cells slots (vx_MQ below Qc XC args s mc ms free) (F0 m pc ls rest) := by
  intro T hT X
  have htr : e.platform.stackTraces = false := (show e.platform.stackTraces = l.stackTraces by rw [X.admits.platform]).trans hl
  have Y := vx_rebase X (R' := { frames := R.frames, locals := R.locals, cells := 1, slots := 6 }) (Nat.le_refl _) (Nat.le_refl _) hRcells hRslots
  obtain ⟨s', hA⟩ : ∃ z, z = (T.setVm s.vm).setFrames (.invoking m args :: below) := ⟨_, rfl⟩
  rw [← hA] at Y
  have hvm : s'.vm = s.vm := by rw [hA]; rfl
  have hhp : s'.heap = H := by rw [hA]; exact hT
  have hW0 : s.WarmedH s'.vm := by rw [hvm]; exact State.WarmedH.refl s
  have hat' : ∀ w ∈ vx_atS own ic cls names, w.before args s' = true := fun w hw => vx_ot_at hW0 hvm.symm (hgood w (List.mem_cons_of_mem _ (List.mem_cons_of_mem _ hw))) (hat w hw)
  have hk' : (Cond.classLink own ik cls).before args s' = true := vx_ot_at hW0 hvm.symm (hgood _ List.mem_cons_self) hk
  have hini' : (Cond.initialized cls).before args s' = true := vx_ot_at hW0 hvm.symm (hgood _ (List.mem_cons_of_mem _ List.mem_cons_self)) hini
  have hU' : vx_Zq Bundle.tN "UNASSIGNED_STACK" Bundle.steD A s' s'.heap := by rw [hhp]; exact vx_Zq.moved hW0.alike (hU.kept hS.2.1)
  have hN' : vx_Zq Bundle.tN "SUPPRESSED_SENTINEL" Bundle.listD A s' s'.heap := by rw [hhp]; exact vx_Zq.moved hW0.alike (hN.kept hS.2.1)
  have h : ∀ w ∈ Bundle.ownAtoms own ic cls names, w.before args s' = true := vx_own hat' (vx_isRefq hU'.1) (vx_isRefq hN'.1) hU'.2.word hN'.2.word
  have hown' : s'.vm.findClass own = some m.cls := by rw [hvm]; exact hown
  have hins : (Cond.instantiable cls 6).before args s' = true := h _ (by simp [Bundle.ownAtoms])
  obtain ⟨vm₁, cX, kX, hfX, hkX, -, -, X₁, st1⟩ := Y.newCold hexec (own := own) (C := cls) (index := ik) (n := 6) hown' hk' hins hini'
    (g := F0 m pc ls rest) rfl (by rw [hb]; exact d0) (Nat.le_refl _) (Nat.le_refl _)
  generalize hT1 : (T.setVm vm₁).pushCell { cls := cX, slots := kX.instanceTypes.map defaultValue, vm := .none } = T1 at X₁ st1
  have hcat : (Value.ref T.heap.size).category = 1 := rfl
  have hcellA : T1.heap[T.heap.size]? = some (freshCell cX kX) := by rw [← hT1]; exact State.heap_pushCell_size _ _
  have d3' : decode c.code (pc + 3) = .ok (.dup, 1) := by rw [hb]; exact d3
  have d4' : decode c.code (pc + 4) = .ok (.ldc_w is, 3) := by rw [hb]; exact d4
  have hstr' : vk_R own is text sa s' := vk_R.warm hW0 hstr
  obtain ⟨U, hsteps, hrun, hend, hW, hsame, ce, hce, hO⟩ := X₁.ctorThrowS hexec htr (own := own) (cls := cls) (names := names) (ic := ic) hown' hcls hnames h (fun x hx => nomatch hx) hfX hkX hcellA (by rw [hhp, hT]; exact Nat.le_refl _) (msg := .ref sa) rfl
    (g := { method := m, pc := pc + 7, locals := ls, stack := .ref sa :: .ref T.heap.size :: .ref T.heap.size :: rest, locked := none }) rfl hsize rfl rfl (rest := rest) rfl
    (by rw [hb]; exact d7) (by rw [hb]; exact d10) hout hRframes (by simp only [List.map_cons, List.sum_cons, hcat]; omega) hlocks
  obtain ⟨f1, f2⟩ := vx_frame hsame
  rw [hhp] at f1 f2
  have hWs : s.WarmedH U.vm := State.WarmedH.trans hW0 hW
  have hcl : s.vm.findClass cls = some ce.cls := by
    have h9 := hO.cls
    rw [hvm] at h9
    exact h9
  have hall : s.sameButNew ({ U with vm := s.vm } : State) locs mc ms := by
    subst hA
    obtain ⟨e1, e2⟩ := hsame
    rw [State.setFrames_setFrames] at e1
    have h2 : (T.setVm s.vm).sameButNew ({ U with vm := s.vm } : State) [] (0 + 1) (0 + 6) := ⟨e1, e2⟩
    have h3 := X.same.trans h2
    rw [List.append_nil] at h3
    exact h3.mono hc hs
  refine ⟨U, ?_, .threw T.heap.size, hrun, hend, Or.inr ⟨T.heap.size, rfl, cls, ce, locs, hx U hWs.alike f1 (fun q hq => f2 q hq (fun z hz => nomatch hz)), hce, hO.vm, hcl, hWs, hall, hf⟩⟩
  refine st1 _ ?_
  show Steps p.tables e below (T1.setTop { method := m, pc := pc + 3, locals := ls, stack := .ref T.heap.size :: rest, locked := none }) _
  jvm_step X₁.here [X₁.here.top, hexec, d3', Value.category]
  exact X₁.ldcStringW hexec (own := own) (text := text) (index := is) (a := sa) hown' hstr'.1 hstr'.2
    (g := { method := m, pc := pc + 4, locals := ls, stack := .ref T.heap.size :: .ref T.heap.size :: rest, locked := none }) rfl d4' _ hsteps
end Ends
section Bodies
variable {l : Launch}
theorem vx_ofW {y : MethodName} {ws ws' : List Cond} {rm : Room} {Pc : Array Value → State → Prop} {Qc : Array Value → State → Outcome → State → Prop} {XC : String → State → State → Prop} {mc ms : Nat} {free : Addr → Prop} {cc : ByteArray} {maxL : Nat} {ret : Option FieldType}
    (hy : plainName y.cls = true) (hw : ws = Cond.code y cc maxL ret :: ws')
    (body : ∀ p e s m args below meth c s₁, BodyLoose p l y (headSpec ws rm) cc maxL ret e s m args below meth c s₁ → c.maxLocals = maxL → (∀ x ∈ c.exceptionTable.toList, False) → Pc args s →
      W p l e (headSpec ws rm).room s m args below meth c s.heap [] 0 0 (vx_MQ below Qc XC args s mc ms free) (entryFrame m args maxL)) : vx_Met l y ws rm Pc Qc XC mc ms free := by
  refine MetFree.of_bodyS (code := cc) (maxLocals := maxL) (ret := ret) hy ?_ ?_
  · intro args s m h hn
    obtain ⟨meth, c, h1, h2, h3, h4, h5, h6, -, -⟩ := Cond.code_spec hn (atoms_spec (ws := ws) h _ (by rw [hw]; exact List.mem_cons_self))
    exact ⟨meth, c, h1, h2, h3, h4, h5, h6⟩
  · intro p e s m args below meth c s₁ B hml hP _
    have hh0 : s₁.heap = s.heap := by rw [B.state]; rfl
    have ht : ∀ x ∈ c.exceptionTable.toList, False := by
      obtain ⟨meth9, c9, h1, h2, -, -, -, -, h7, -⟩ := Cond.code_spec B.named (atoms_spec (ws := ws) B.pre _ (by rw [hw]; exact List.mem_cons_self))
      cases Option.some.inj (h1.symm.trans B.method)
      cases Option.some.inj (h2.symm.trans (Stand.of_body B).code)
      intro x hx
      rw [Array.isEmpty_iff.mp h7] at hx
      cases hx
    obtain ⟨t, a1, o, b1, b2, b3⟩ := body p e s m args below meth c s₁ B hml ht hP s₁ hh0 (Stand.of_body B)
    exact ⟨t, o, a1, b1, b2, b3⟩
/-- the table of a body with handlers -/
theorem vx_table {p : Program} {x y : MethodName} {S : Spec} {cc bytes : ByteArray} {maxL maxL' : Nat} {ret ret' : Option FieldType} {e : Env} {s s₁ : State} {m : MethodId} {args : Array Value} {below : List Frame} {meth : Method} {c : Code} {hh : List (Nat × Nat × Nat × Nat)}
    (B : BodyLoose p l y S cc maxL ret e s m args below meth c s₁) (h : (Cond.codeWith y bytes maxL' ret' hh).before args s = true) : c.exceptionTable.toList = tableOf hh := by
  obtain ⟨m9, meth9, c9, hn9, h1, h2, -, -, h6, -⟩ := Cond.codeWith_spec h
  cases Option.some.inj (hn9.symm.trans B.named)
  cases Option.some.inj (h1.symm.trans B.method)
  cases Option.some.inj (h2.symm.trans (Stand.of_body B).code)
  rw [← h6, table_eq]
end Bodies
end VXA
/-! ===== END ===== -/
/-! ===== BEGIN a static call of a method with an exception table ===== -/
section VXS
variable {p : Program} {l : Launch} {e : Env} {R : Room} {s : State} {m : MethodId} {args : Array Value} {below : List Frame} {meth : Method} {c : Code} {T : State} {H : Heap} {locs : List Loc} {cells slots : Nat}
abbrev vx_CSW (R : Room) (s : State) (args : Array Value) (own : String) (index : Nat) (y : MethodName) (bytes : ByteArray) (maxL : Nat) (ret : Option FieldType) (hh : List (Nat × Nat × Nat × Nat)) (ws : List Cond) (rm : Room) (mc ms n : Nat) : Prop :=
  (rm.cells = mc ∧ rm.slots = ms ∧ rm.frames + 1 ≤ R.frames ∧ 8 + (maxL + 11) + rm.locals ≤ R.locals ∧ (∀ w ∈ ws, ∀ (a' : Array Value) (U : State), s.WarmedH U.vm → w.before a' U = true) ∧ Cond.codeWith y bytes maxL ret hh ∈ ws) ∧
  (Cond.codeWith y bytes maxL ret hh).before args s = true ∧ (Cond.initialized y.cls).before args s = true ∧ (y.cls ≠ "java/lang/invoke/MethodHandle" ∧ y.cls ≠ "java/lang/invoke/VarHandle") ∧
  (∀ sig, parseMethodDescriptor y.desc = some sig → n = sig.parameters.length) ∧ (Cond.methodLink own index y).before args s = true ∧ (Cond.static y).before args s = true
theorem vx_cwSW {own : String} {index maxL mc ms : Nat} {y : MethodName} {bytes : ByteArray} {ret : Option FieldType} {hh : List (Nat × Nat × Nat × Nat)} {Ts ws ws' : List Cond} {rm : Room} (n : Nat) (ht : ∀ w ∈ Ts, w.before args s = true) (hT : GoodIn Ts (va_wsS own index y ws)) (hw : ws = Cond.codeWith y bytes maxL ret hh :: ws') (hrc : rm.cells = mc) (hrs : rm.slots = ms)
    (hd : y.cls ≠ "java/lang/invoke/MethodHandle" ∧ y.cls ≠ "java/lang/invoke/VarHandle" ∧ (parseMethodDescriptor y.desc).map (fun d => d.parameters.length) = some n) (hR : rm.frames + 1 ≤ R.frames ∧ 8 + (maxL + 11) + rm.locals ≤ R.locals) :
    vx_CSW R s args own index y bytes maxL ret hh ws rm mc ms n := by
  have ok : ∀ w ∈ va_wsS own index y ws, w.before args s = true := fun w h => ht w (hT w h).1
  have hG : GoodIn Ts ws := fun w h => hT w (by unfold va_wsS; exact List.mem_append_right _ h)
  have hc : Cond.codeWith y bytes maxL ret hh ∈ ws := by rw [hw]; exact List.mem_cons_self
  refine ⟨⟨hrc, hrs, hR.1, hR.2, pay_in ht hG, hc⟩, ht _ (hG _ hc).1, ok _ (by simp [va_wsS]), ⟨hd.1, hd.2.1⟩, fun sig h => ?_, ok _ (by simp [va_wsS]), ok _ (by simp [va_wsS])⟩
  have h2 := hd.2.2
  rw [h] at h2
  exact (Option.some.inj h2).symm
theorem vx_callSW (X : Stand p l e R s m args below meth c T locs cells slots) (hexec : p.tables.exec = Jvm.exec) {own : String} {index : Nat} {y : MethodName} {bytes : ByteArray} {maxL : Nat} {ret : Option FieldType} {hh : List (Nat × Nat × Nat × Nat)}
    (hown : s.vm.findClass own = some m.cls) (hlink : (Cond.methodLink own index y).before args s = true) (hstat : (Cond.static y).before args s = true) (hinit : (Cond.initialized y.cls).before args s = true)
    (hcode : (Cond.codeWith y bytes maxL ret hh).before args s = true) (hy : y.cls ≠ "java/lang/invoke/MethodHandle" ∧ y.cls ≠ "java/lang/invoke/VarHandle")
    {W9 : Nat} {Pre : Pt → Array Value → Prop} {Post : Pt → Array Value → Option Value → Pt → Prop} (hK : Back l R p e below s args y 3 W9 Pre Post)
    {g : JFrame} (hg : g.method = m) (hsize : g.locals.size = c.maxLocals) {argsL rest : List Value} (hlen : ∀ sig, parseMethodDescriptor y.desc = some sig → argsL.length = sig.parameters.length)
    (hstack : g.stack = argsL.reverse ++ rest) (hW : 2 * g.monitorRoom + (rest.map fun v => v.category).sum ≤ W9) (hdg : decode c.code g.pc = .ok (.invokestatic index, 3))
    (hpre : ∀ vm₁, s.WarmedH vm₁ → Pre ⟨T.setVm vm₁, locs, cells, slots⟩ argsL.toArray) :
    ∃ (v : Option Value) (vm₁ : Vm) (B : Pt), s.WarmedH vm₁ ∧ Stand p l e R s m args below meth c B.U B.locs B.cells B.slots ∧ Post ⟨T.setVm vm₁, locs, cells, slots⟩ argsL.toArray v B ∧
      ∀ target, Steps p.tables e below (B.U.setTop { g with pc := g.pc + 3, stack := v.toList ++ rest }) target → Steps p.tables e below (T.setTop g) target := by
  obtain ⟨mk, methM, cM, hnamed, hmethM, -, -, -, -, -, -, hsigM⟩ := Cond.codeWith_spec hcode
  have hstatic : methM.isStatic = true := Cond.static_spec hnamed hmethM hstat
  obtain ⟨kP, hkP, -⟩ := className_of_methodNamed hnamed
  have hinitP : kP.init = .initialized := Cond.initialized_spec (findClass_of_methodNamed hnamed) hkP hinit
  obtain ⟨vm₁, X₁, hstep₁⟩ := X.invokestatic hexec hown hlink hnamed hmethM hstatic hkP hinitP hy (g := g) hg (argsL := argsL) (rest := rest) (hlen _ hsigM) hstack hdg
  obtain ⟨v, B, X', hpost, hsteps⟩ := hK m meth c ⟨T.setVm vm₁, locs, cells, slots⟩ { g with stack := rest } (.invokestatic index) mk argsL.toArray X₁ hg hsize hdg hW (X₁.named hnamed) (hpre vm₁ X₁.warmed)
  exact ⟨v, vm₁, B, X₁.warmed, X', hpost, fun target h => hstep₁ _ fun acts => by rw [doInvoke_state]; exact hsteps.trans h⟩
theorem vx_runSW {y : MethodName} {bytes cc : ByteArray} {maxL nL mc ms n index : Nat} {ret : Option FieldType} {hh : List (Nat × Nat × Nat × Nat)} {ws : List Cond} {rm : Room} {Pc : Array Value → State → Prop} {Qc : Array Value → State → Outcome → State → Prop} {free : Addr → Prop} {Ts : List Cond} {own : String} {As rest : List Value} {g : JFrame}
    (S : CallFix p m c cc nL s args Ts own) (hM : Met l y ws rm Pc Qc mc ms free) (cw : vx_CSW R s args own index y bytes maxL ret hh ws rm mc ms n) (hp : PreS s H Pc As)
    (hg : g.method = m) (hn : As.length = n) (hsize : g.locals.size = nL) (hstack : g.stack = As.reverse ++ rest) (hW : 2 * g.monitorRoom + (rest.map fun v => v.category).sum ≤ 8) (hdg : decode cc g.pc = .ok (.invokestatic index, 3)) (hf : cells + mc ≤ R.cells ∧ slots + ms ≤ R.slots) :
    va_Run p l e R s m args below meth c H locs cells slots mc ms g rest (Qc As.toArray) (free) := by
  obtain ⟨⟨hrc, hrs, hfr, hlo, hws, hcw⟩, hcode, hini, hy, hlen, hl, hstt⟩ := cw
  have hK : Back l R p e below s args y 3 8 (PreOf R mc ms Pc) (PostOf Qc mc ms free) := va_backW (hh := hh) (bytes := bytes) (maxL := maxL) (ret := ret) hM hp.1 hrc hrs hfr hlo hws hcw (fun a' U hW => word_at hW (Or.inl (by first | rfl | simp [Cond.onTables, Cond.keeps, Cond.steady])) hini)
  obtain ⟨hx, hb, hml, ho, -⟩ := S
  intro T hT X
  obtain ⟨v, vm₁, ⟨U', l2, c2, s2⟩, hW₁, X', ⟨g', mk, t, L, e1, e2, hq, h1, hL, h2, h3⟩, st⟩ := vx_callSW X hx (hh := hh) (bytes := bytes) (maxL := maxL) (ret := ret) ho hl hstt hini hcode hy hK hg (hsize.trans hml.symm) (argsL := As) (rest := rest) (fun sig h => hn.trans (hlen sig h)) hstack hW (by rw [hb]; exact hdg)
    (fun vm₁ hW₁ => ⟨hf.1, hf.2, hp.2 (T.setVm vm₁) hT hW₁⟩)
  dsimp only [Pt.U, Pt.locs, Pt.cells, Pt.slots] at X' e1 e2 h1 h2 h3 st
  subst h1; subst h2; subst h3
  exact ⟨v, (T.setVm vm₁).calling g' mk As.toArray, t, U', L, hT, X', hL, e1, e2, hq, st⟩
theorem vx_lt {D : va_G} {cl : List vw_C} {ws : va_W} {H1 : Heap} (h : va_P D cl ws H1) {k : Nat} {q : Nat × va_E} (hk : ws[k]? = some q) : q.1 < H1.size := (h k q hk).lt
end VXS
/-! ===== END ===== -/
/-! ===== BEGIN methods with a table of their own: called by a name, returning or throwing ===== -/
section VXH
/-! vx_backW, vx_callVX, vx_callSX, vx_callVW, vx_runVW, vx_runVX, vx_runSX, vx_ofWH follow the same proofs as their sisters above (Free/Laws.lean, Shelf42/LK1.lean); vx_outP calls Shelf42/NT130.lean (outThrough). -/
section
variable {l : Launch} {R : Room} {p : Program} {e : Env} {below : List Frame} {s : State} {sargs : Array Value} {y : MethodName} {len W9 : Nat}
theorem vx_backW {ws : List Cond} {rm : Room} {Pc : Array Value → State → Prop} {Qc : Array Value → State → Outcome → State → Prop} {XC : String → State → State → Prop} {mc ms : Nat} {free : Addr → Prop} {bytes : ByteArray} {maxL : Nat} {ret : Option FieldType} {hh : List (Nat × Nat × Nat × Nat)}
    (hM : vx_Met l y ws rm Pc Qc XC mc ms free) (hblind : FrameBlind Pc) (hrc : rm.cells = mc) (hrs : rm.slots = ms)
    (hframes : rm.frames + 1 ≤ R.frames) (hlocals : W9 + (maxL + 11) + rm.locals ≤ R.locals)
    (hws : ∀ w ∈ ws, ∀ a' U, s.WarmedH U.vm → w.before a' U = true) (hcode : Cond.codeWith y bytes maxL ret hh ∈ ws) (hinit : ∀ a' U, s.WarmedH U.vm → (Cond.initialized y.cls).before a' U = true) :
    vx_Back l R p e below s sargs y len W9 (PreOf R mc ms Pc) (PostOf Qc mc ms free) (vx_Post XC mc ms free) := by
  intro m meth c A g ig mk a X hg hsize hdg hW hn hp
  have h1 : (headSpec ws rm).pre.before a A.U = true := atoms_intro fun w hw => hws w hw _ _ X.warmed
  have h2 : (Cond.codeWith y bytes maxL ret hh).before a A.U = true := hws _ hcode _ _ X.warmed
  have h3 : (Cond.initialized y.cls).before a A.U = true := hinit _ _ X.warmed
  have h4 : A.cells + (headSpec ws rm).room.cells ≤ R.cells := by rw [show (headSpec ws rm).room.cells = mc from hrc]; exact hp.1
  have h5 : A.slots + (headSpec ws rm).room.slots ≤ R.slots := by rw [show (headSpec ws rm).room.slots = ms from hrs]; exact hp.2.1
  have hPc : Pc a (A.U.calling g mk a) := hblind _ _ _ _ hp.2.2
  obtain ⟨U, Ls, c0, s0⟩ := A
  dsimp only [Pt.U, Pt.locs, Pt.cells, Pt.slots] at h1 h2 h3 h4 h5 X hn hPc ⊢
  obtain ⟨m9, methY, cY, hn9, hmY, hcY, -, hlY, -⟩ := Cond.codeWith_spec h2
  cases Option.some.inj (hn9.symm.trans hn)
  obtain ⟨kY, hkY, -⟩ := className_of_methodNamed hn
  have hinitY : kY.init = .initialized := Cond.initialized_spec (findClass_of_methodNamed hn) hkY h3
  have h : At U g.method c below := by rw [hg]; exact X.here
  have hlocals9 : W9 + (maxL + 11) + (headSpec ws rm).room.locals ≤ R.locals := hlocals
  have happ : (headSpec ws rm).appliesLoose y e.platform (U.calling g mk a) = true :=
    Spec.appliesLoose_calling (g := g) h hdg hn hkY hinitY
      (X.room_calling (g := g) (R' := (headSpec ws rm).room) hsize hmY hcY hframes (by rw [hlY]; omega) h4 h5) h1
  obtain ⟨mid, hmid⟩ := h.above
  have hfr : (U.setTop g).frames = (.java g :: mid) ++ below := by rw [State.frames_setTop' g h.top, hmid]; rfl
  obtain ⟨o, s₂, hsteps, -, hend, hq⟩ := Steps.callFree hM p X.admits X.cas X.clock (acts := []) hfr happ hPc trivial
  have hq' : vx_Q Qc XC mc ms free a (U.calling g mk a) o s₂ := hq
  rw [State.frames_setTop' g h.top] at hend
  obtain ⟨g₀, hg0⟩ := Option.isSome_iff_exists.mp h.top
  obtain ⟨r, hr⟩ := State.topJava?_eq_some.mp hg0
  have hr' : (({ U with heap := s₂.heap, slotsUsed := s₂.slotsUsed } : State).setVm s₂.vm).frames = .java g₀ :: r := hr
  rcases hq' with ⟨hqc, L, hfe, hL⟩ | ⟨q, rfl, E, ce, L, hx, hce, hcv, hcl, hW₂, hsm, hL⟩
  · obtain ⟨⟨v, rfl⟩, hW₂, e2, q2, q3, q4, q5, q6⟩ := id hfe
    have e3 : s₂ = ({ (U.calling g mk a).setFrames s₂.frames with heap := s₂.heap, slotsUsed := s₂.slotsUsed } : State).setVm s₂.vm := by
      have : s₂ = ({ s₂ with vm := (U.calling g mk a).vm } : State).setVm s₂.vm := rfl
      rw [e2] at this
      exact this
    obtain ⟨c₂, i₂, len₂, hc₂, hd₂, hf₂⟩ := hend
    have hW' : U.WarmedH s₂.vm := hW₂
    have hcc : c₂ = c := by
      have h1 : s₂.code? g.method = U.code? g.method := by
        rw [State.code?_eq, State.code?_eq, hW'.alike.method?]
      exact Option.some.inj (hc₂.symm.trans (h1.trans h.code))
    subst hcc
    have hlen : len₂ = len := by rw [hdg] at hd₂; cases hd₂; rfl
    subst hlen
    have hs₂ : s₂ = (({ U with heap := s₂.heap, slotsUsed := s₂.slotsUsed } : State).setVm s₂.vm).setTop { g with pc := g.pc + len₂, stack := v.toList ++ g.stack } := by
      refine e3.trans ?_
      rw [hf₂, State.calling_eq h.top, State.setFrames_setFrames, State.setTop_of_frames _ hr', hr]
      rfl
    have hsame : U.sameButNew ({ U with heap := s₂.heap, slotsUsed := s₂.slotsUsed } : State) L mc ms := by
      refine ⟨?_, q2, q3, q4, q5, q6⟩
      obtain ⟨t, ht, -⟩ := State.frames_cons hr
      show ({ U with heap := s₂.heap, slotsUsed := s₂.slotsUsed } : State) = { U.setFrames U.frames with heap := s₂.heap, slotsUsed := s₂.slotsUsed }
      rw [State.setFrames_self ht]
    subst hg
    refine Or.inl ⟨v, ⟨(({ U with heap := s₂.heap, slotsUsed := s₂.slotsUsed } : State).setVm s₂.vm), Ls ++ L, c0 + mc, s0 + ms⟩,
      ⟨X.admits, X.cas, X.clock, X.frames, X.room, X.hears, X.method, X.code, (X.here.setHeapUsed s₂.heap s₂.slotsUsed).setVm hW'.alike, X.tail, State.WarmedH.trans X.warmed hW', X.limits, X.bytes, X.same.trans (hsame.setVm s.vm)⟩,
      ⟨g, mk, s₂, L, rfl, rfl, hqc, rfl, hL, rfl, rfl⟩, ?_⟩
    show Steps p.tables e below _ ((({ U with heap := s₂.heap, slotsUsed := s₂.slotsUsed } : State).setVm s₂.vm).setTop { g with pc := g.pc + len₂, stack := v.toList ++ g.stack })
    rw [← hs₂]
    exact hsteps
  · obtain ⟨e2, q2, q3, q4, q5, q6⟩ := id hsm
    have e3 : s₂ = ({ (U.calling g mk a).setFrames s₂.frames with heap := s₂.heap, slotsUsed := s₂.slotsUsed } : State).setVm s₂.vm := by
      have : s₂ = ({ s₂ with vm := (U.calling g mk a).vm } : State).setVm s₂.vm := rfl
      rw [e2] at this
      exact this
    have hf₂ : s₂.frames = .throwing q :: .java g :: U.frames.tail := hend
    have hW' : U.WarmedH s₂.vm := hW₂
    have hs₂ : s₂ = ((({ U with heap := s₂.heap, slotsUsed := s₂.slotsUsed } : State).setVm s₂.vm).setTop g).pushFrame (.throwing q) := by
      refine e3.trans ?_
      rw [hf₂, State.calling_eq h.top, State.setFrames_setFrames, State.pushFrame, State.frames_setTop _ hr', State.setTop_of_frames _ hr', State.setFrames_setFrames, hr]
      rfl
    have hsame : U.sameButNew ({ U with heap := s₂.heap, slotsUsed := s₂.slotsUsed } : State) L mc ms := by
      refine ⟨?_, q2, q3, q4, q5, q6⟩
      obtain ⟨t, ht, -⟩ := State.frames_cons hr
      show ({ U with heap := s₂.heap, slotsUsed := s₂.slotsUsed } : State) = { U.setFrames U.frames with heap := s₂.heap, slotsUsed := s₂.slotsUsed }
      rw [State.setFrames_self ht]
    subst hg
    refine Or.inr ⟨q, ⟨(({ U with heap := s₂.heap, slotsUsed := s₂.slotsUsed } : State).setVm s₂.vm), Ls ++ L, c0 + mc, s0 + ms⟩,
      ⟨X.admits, X.cas, X.clock, X.frames, X.room, X.hears, X.method, X.code, (X.here.setHeapUsed s₂.heap s₂.slotsUsed).setVm hW'.alike, X.tail, State.WarmedH.trans X.warmed hW', X.limits, X.bytes, X.same.trans (hsame.setVm s.vm)⟩,
      ⟨g, mk, s₂, L, E, ce, rfl, rfl, hx, hce, hcv, hcl, rfl, hL, rfl, rfl⟩, ?_⟩
    show Steps p.tables e below _ (((({ U with heap := s₂.heap, slotsUsed := s₂.slotsUsed } : State).setVm s₂.vm).setTop g).pushFrame (.throwing q))
    rw [← hs₂]
    exact hsteps
end
variable {p : Program} {l : Launch} {e : Env} {R : Room} {s : State} {m : MethodId} {args : Array Value} {below : List Frame} {meth : Method} {c : Code} {T : State} {H : Heap} {locs : List Loc} {cells slots : Nat}
theorem vx_callVX (X : Stand p l e R s m args below meth c T locs cells slots) (hexec : p.tables.exec = Jvm.exec) {own C : String} {index : Nat} {y : MethodName} {bytes : ByteArray} {maxL : Nat} {ret : Option FieldType} {hh : List (Nat × Nat × Nat × Nat)}
    (hown : s.vm.findClass own = some m.cls) (hlink : (Cond.methodLink own index y).before args s = true) (hinst : (Cond.instanceMethod y).before args s = true) (hsel : (Cond.selects C y y).before args s = true)
    (hcode : (Cond.codeWith y bytes maxL ret hh).before args s = true) (hy : y.cls ≠ "java/lang/invoke/MethodHandle" ∧ y.cls ≠ "java/lang/invoke/VarHandle")
    {W9 : Nat} {Pre : Pt → Array Value → Prop} {Post : Pt → Array Value → Option Value → Pt → Prop} {PostX : Pt → Array Value → Addr → Pt → Prop} (hK : vx_Back l R p e below s args y 3 W9 Pre Post PostX)
    {b : Addr} {cellB : Cell} (hcell : T.heap[b]? = some cellB) (hobj : cellB.vm.isStatics = false) (hcls : s.vm.findClass C = some cellB.cls)
    {g : JFrame} (hg : g.method = m) (hsize : g.locals.size = c.maxLocals) {argsL rest : List Value} (hlen : ∀ sig, parseMethodDescriptor y.desc = some sig → argsL.length = sig.parameters.length)
    (hstack : g.stack = argsL.reverse ++ .ref b :: rest) (hW : 2 * g.monitorRoom + (rest.map fun v => v.category).sum ≤ W9) (hdg : decode c.code g.pc = .ok (.invokevirtual index, 3))
    (hpre : ∀ vm₁, s.WarmedH vm₁ → Pre ⟨T.setVm vm₁, locs, cells, slots⟩ (Value.ref b :: argsL).toArray) :
    (∃ (v : Option Value) (vm₁ : Vm) (B : Pt), s.WarmedH vm₁ ∧ Stand p l e R s m args below meth c B.U B.locs B.cells B.slots ∧ Post ⟨T.setVm vm₁, locs, cells, slots⟩ (Value.ref b :: argsL).toArray v B ∧
      ∀ target, Steps p.tables e below (B.U.setTop { g with pc := g.pc + 3, stack := v.toList ++ rest }) target → Steps p.tables e below (T.setTop g) target) ∨
    (∃ (q : Addr) (vm₁ : Vm) (B : Pt), s.WarmedH vm₁ ∧ Stand p l e R s m args below meth c B.U B.locs B.cells B.slots ∧ PostX ⟨T.setVm vm₁, locs, cells, slots⟩ (Value.ref b :: argsL).toArray q B ∧
      Steps p.tables e below (T.setTop g) ((B.U.setTop { g with stack := rest }).pushFrame (.throwing q))) := by
  obtain ⟨mk, methM, hnamed, hmethM, hstM, habM⟩ := Cond.instanceMethod_spec hinst
  obtain ⟨m8, methM', cM, hn8, hmethM', -, -, -, -, -, -, hsigM⟩ := Cond.codeWith_spec hcode
  cases Option.some.inj (hn8.symm.trans hnamed)
  cases hmethM.symm.trans hmethM'
  obtain ⟨c2, r2, m2, q1, q2, q3, q4, kP, hkP, hkPi⟩ := Cond.selects_spec hsel
  cases hcls.symm.trans q1
  cases (State.methodFound?_of_named hnamed hy).symm.trans q2
  cases hnamed.symm.trans q3
  have hselP : selectMethod e.platform s.vm cellB.cls mk = .method mk := by rw [Launch.admits_selectMethod X.admits]; exact q4
  obtain ⟨vm₁, X₁, hstep₁⟩ := X.invokevirtual hexec hown hlink hnamed hmethM hstM hkP hkPi hy (a := b) (cell := cellB) hcell
    (fun z h => by rw [h] at hobj; cases hobj) hselP hmethM habM hkP hkPi (g := g) hg (argsL := argsL) (rest := rest) (hlen _ hsigM) hstack hdg
  rcases hK m meth c ⟨T.setVm vm₁, locs, cells, slots⟩ { g with stack := rest } (.invokevirtual index) mk (Value.ref b :: argsL).toArray X₁ hg hsize hdg hW (X₁.named hnamed) (hpre vm₁ X₁.warmed) with ⟨v, B, X', hpost, hsteps⟩ | ⟨q, B, X', hpost, hsteps⟩
  · exact Or.inl ⟨v, vm₁, B, X₁.warmed, X', hpost, fun target h => hstep₁ _ fun acts => by rw [doInvoke_state]; exact hsteps.trans h⟩
  · exact Or.inr ⟨q, vm₁, B, X₁.warmed, X', hpost, hstep₁ _ fun acts => by rw [doInvoke_state]; exact hsteps⟩
theorem vx_callSX (X : Stand p l e R s m args below meth c T locs cells slots) (hexec : p.tables.exec = Jvm.exec) {own : String} {index : Nat} {y : MethodName} {bytes : ByteArray} {maxL : Nat} {ret : Option FieldType} {hh : List (Nat × Nat × Nat × Nat)}
    (hown : s.vm.findClass own = some m.cls) (hlink : (Cond.methodLink own index y).before args s = true) (hstat : (Cond.static y).before args s = true) (hinit : (Cond.initialized y.cls).before args s = true)
    (hcode : (Cond.codeWith y bytes maxL ret hh).before args s = true) (hy : y.cls ≠ "java/lang/invoke/MethodHandle" ∧ y.cls ≠ "java/lang/invoke/VarHandle")
    {W9 : Nat} {Pre : Pt → Array Value → Prop} {Post : Pt → Array Value → Option Value → Pt → Prop} {PostX : Pt → Array Value → Addr → Pt → Prop} (hK : vx_Back l R p e below s args y 3 W9 Pre Post PostX)
    {g : JFrame} (hg : g.method = m) (hsize : g.locals.size = c.maxLocals) {argsL rest : List Value} (hlen : ∀ sig, parseMethodDescriptor y.desc = some sig → argsL.length = sig.parameters.length)
    (hstack : g.stack = argsL.reverse ++ rest) (hW : 2 * g.monitorRoom + (rest.map fun v => v.category).sum ≤ W9) (hdg : decode c.code g.pc = .ok (.invokestatic index, 3))
    (hpre : ∀ vm₁, s.WarmedH vm₁ → Pre ⟨T.setVm vm₁, locs, cells, slots⟩ argsL.toArray) :
    (∃ (v : Option Value) (vm₁ : Vm) (B : Pt), s.WarmedH vm₁ ∧ Stand p l e R s m args below meth c B.U B.locs B.cells B.slots ∧ Post ⟨T.setVm vm₁, locs, cells, slots⟩ argsL.toArray v B ∧
      ∀ target, Steps p.tables e below (B.U.setTop { g with pc := g.pc + 3, stack := v.toList ++ rest }) target → Steps p.tables e below (T.setTop g) target) ∨
    (∃ (q : Addr) (vm₁ : Vm) (B : Pt), s.WarmedH vm₁ ∧ Stand p l e R s m args below meth c B.U B.locs B.cells B.slots ∧ PostX ⟨T.setVm vm₁, locs, cells, slots⟩ argsL.toArray q B ∧
      Steps p.tables e below (T.setTop g) ((B.U.setTop { g with stack := rest }).pushFrame (.throwing q))) := by
  obtain ⟨mk, methM, cM, hnamed, hmethM, -, -, -, -, -, -, hsigM⟩ := Cond.codeWith_spec hcode
  have hstatic : methM.isStatic = true := Cond.static_spec hnamed hmethM hstat
  obtain ⟨kP, hkP, -⟩ := className_of_methodNamed hnamed
  have hinitP : kP.init = .initialized := Cond.initialized_spec (findClass_of_methodNamed hnamed) hkP hinit
  obtain ⟨vm₁, X₁, hstep₁⟩ := X.invokestatic hexec hown hlink hnamed hmethM hstatic hkP hinitP hy (g := g) hg (argsL := argsL) (rest := rest) (hlen _ hsigM) hstack hdg
  rcases hK m meth c ⟨T.setVm vm₁, locs, cells, slots⟩ { g with stack := rest } (.invokestatic index) mk argsL.toArray X₁ hg hsize hdg hW (X₁.named hnamed) (hpre vm₁ X₁.warmed) with ⟨v, B, X', hpost, hsteps⟩ | ⟨q, B, X', hpost, hsteps⟩
  · exact Or.inl ⟨v, vm₁, B, X₁.warmed, X', hpost, fun target h => hstep₁ _ fun acts => by rw [doInvoke_state]; exact hsteps.trans h⟩
  · exact Or.inr ⟨q, vm₁, B, X₁.warmed, X', hpost, hstep₁ _ fun acts => by rw [doInvoke_state]; exact hsteps⟩
theorem vx_callVW (X : Stand p l e R s m args below meth c T locs cells slots) (hexec : p.tables.exec = Jvm.exec) {own C : String} {index : Nat} {y : MethodName} {bytes : ByteArray} {maxL : Nat} {ret : Option FieldType} {hh : List (Nat × Nat × Nat × Nat)}
    (hown : s.vm.findClass own = some m.cls) (hlink : (Cond.methodLink own index y).before args s = true) (hinst : (Cond.instanceMethod y).before args s = true) (hsel : (Cond.selects C y y).before args s = true)
    (hcode : (Cond.codeWith y bytes maxL ret hh).before args s = true) (hy : y.cls ≠ "java/lang/invoke/MethodHandle" ∧ y.cls ≠ "java/lang/invoke/VarHandle")
    {W9 : Nat} {Pre : Pt → Array Value → Prop} {Post : Pt → Array Value → Option Value → Pt → Prop} (hK : Back l R p e below s args y 3 W9 Pre Post)
    {b : Addr} {cellB : Cell} (hcell : T.heap[b]? = some cellB) (hobj : cellB.vm.isStatics = false) (hcls : s.vm.findClass C = some cellB.cls)
    {g : JFrame} (hg : g.method = m) (hsize : g.locals.size = c.maxLocals) {argsL rest : List Value} (hlen : ∀ sig, parseMethodDescriptor y.desc = some sig → argsL.length = sig.parameters.length)
    (hstack : g.stack = argsL.reverse ++ .ref b :: rest) (hW : 2 * g.monitorRoom + (rest.map fun v => v.category).sum ≤ W9) (hdg : decode c.code g.pc = .ok (.invokevirtual index, 3))
    (hpre : ∀ vm₁, s.WarmedH vm₁ → Pre ⟨T.setVm vm₁, locs, cells, slots⟩ (Value.ref b :: argsL).toArray) :
    ∃ (v : Option Value) (vm₁ : Vm) (B : Pt), s.WarmedH vm₁ ∧ Stand p l e R s m args below meth c B.U B.locs B.cells B.slots ∧ Post ⟨T.setVm vm₁, locs, cells, slots⟩ (Value.ref b :: argsL).toArray v B ∧
      ∀ target, Steps p.tables e below (B.U.setTop { g with pc := g.pc + 3, stack := v.toList ++ rest }) target → Steps p.tables e below (T.setTop g) target := by
  obtain ⟨mk, methM, hnamed, hmethM, hstM, habM⟩ := Cond.instanceMethod_spec hinst
  obtain ⟨m8, methM', cM, hn8, hmethM', -, -, -, -, -, -, hsigM⟩ := Cond.codeWith_spec hcode
  cases Option.some.inj (hn8.symm.trans hnamed)
  cases hmethM.symm.trans hmethM'
  obtain ⟨c2, r2, m2, q1, q2, q3, q4, kP, hkP, hkPi⟩ := Cond.selects_spec hsel
  cases hcls.symm.trans q1
  cases (State.methodFound?_of_named hnamed hy).symm.trans q2
  cases hnamed.symm.trans q3
  have hselP : selectMethod e.platform s.vm cellB.cls mk = .method mk := by rw [Launch.admits_selectMethod X.admits]; exact q4
  obtain ⟨vm₁, X₁, hstep₁⟩ := X.invokevirtual hexec hown hlink hnamed hmethM hstM hkP hkPi hy (a := b) (cell := cellB) hcell
    (fun z h => by rw [h] at hobj; cases hobj) hselP hmethM habM hkP hkPi (g := g) hg (argsL := argsL) (rest := rest) (hlen _ hsigM) hstack hdg
  obtain ⟨v, B, X', hpost, hsteps⟩ := hK m meth c ⟨T.setVm vm₁, locs, cells, slots⟩ { g with stack := rest } (.invokevirtual index) mk (Value.ref b :: argsL).toArray X₁ hg hsize hdg hW (X₁.named hnamed) (hpre vm₁ X₁.warmed)
  exact ⟨v, vm₁, B, X₁.warmed, X', hpost, fun target h => hstep₁ _ fun acts => by rw [doInvoke_state]; exact hsteps.trans h⟩
abbrev vx_CVW (R : Room) (s : State) (args : Array Value) (own C : String) (index : Nat) (y : MethodName) (bytes : ByteArray) (maxL : Nat) (ret : Option FieldType) (hh : List (Nat × Nat × Nat × Nat)) (ws : List Cond) (rm : Room) (mc ms n : Nat) : Prop :=
  (rm.cells = mc ∧ rm.slots = ms ∧ rm.frames + 1 ≤ R.frames ∧ 8 + (maxL + 11) + rm.locals ≤ R.locals ∧ (∀ w ∈ ws, ∀ (a' : Array Value) (U : State), s.WarmedH U.vm → w.before a' U = true) ∧ Cond.codeWith y bytes maxL ret hh ∈ ws) ∧
  (Cond.codeWith y bytes maxL ret hh).before args s = true ∧ (Cond.initialized y.cls).before args s = true ∧ (y.cls ≠ "java/lang/invoke/MethodHandle" ∧ y.cls ≠ "java/lang/invoke/VarHandle") ∧
  (∀ sig, parseMethodDescriptor y.desc = some sig → n = sig.parameters.length) ∧ (Cond.methodLink own index y).before args s = true ∧ (Cond.instanceMethod y).before args s = true ∧ (Cond.selects C y y).before args s = true
theorem vx_cwVW {own C : String} {index maxL mc ms : Nat} {y : MethodName} {bytes : ByteArray} {ret : Option FieldType} {hh : List (Nat × Nat × Nat × Nat)} {Ts ws ws' : List Cond} {rm : Room} (n : Nat) (ht : ∀ w ∈ Ts, w.before args s = true) (hT : GoodIn Ts (wsV own index C y ws)) (hw : ws = Cond.codeWith y bytes maxL ret hh :: ws') (hrc : rm.cells = mc) (hrs : rm.slots = ms)
    (hd : y.cls = C ∧ y.cls ≠ "java/lang/invoke/MethodHandle" ∧ y.cls ≠ "java/lang/invoke/VarHandle" ∧ (parseMethodDescriptor y.desc).map (fun d => d.parameters.length) = some n) (hR : rm.frames + 1 ≤ R.frames ∧ 8 + (maxL + 11) + rm.locals ≤ R.locals) :
    vx_CVW R s args own C index y bytes maxL ret hh ws rm mc ms n := by
  obtain ⟨hC, hd⟩ := hd
  subst hC
  have ok : ∀ w ∈ wsV own index y.cls y ws, w.before args s = true := fun w h => ht w (hT w h).1
  have hG : GoodIn Ts ws := fun w h => hT w (by unfold wsV; exact List.mem_append_right _ h)
  have hc : Cond.codeWith y bytes maxL ret hh ∈ ws := by rw [hw]; exact List.mem_cons_self
  refine ⟨⟨hrc, hrs, hR.1, hR.2, pay_in ht hG, hc⟩, ht _ (hG _ hc).1, ok _ (by simp [wsV]), ⟨hd.1, hd.2.1⟩, fun sig h => ?_, ok _ (by simp [wsV]), ok _ (by simp [wsV]), ok _ (by simp [wsV])⟩
  have h2 := hd.2.2
  rw [h] at h2
  exact (Option.some.inj h2).symm
theorem vx_runVW {y : MethodName} {bytes cc : ByteArray} {maxL nL mc ms n index : Nat} {ret : Option FieldType} {hh : List (Nat × Nat × Nat × Nat)} {ws : List Cond} {rm : Room} {Pc : Array Value → State → Prop} {Qc : Array Value → State → Outcome → State → Prop} {free : Addr → Prop} {Ts : List Cond} {own C : String} {b : Addr} {As rest : List Value} {g : JFrame}
    (S : CallFix p m c cc nL s args Ts own) (hM : Met l y ws rm Pc Qc mc ms free) (cw : vx_CVW R s args own C index y bytes maxL ret hh ws rm mc ms n) (hp : PreV s H C b Pc As)
    (hg : g.method = m) (hn : As.length = n) (hsize : g.locals.size = nL) (hstack : g.stack = As.reverse ++ .ref b :: rest) (hW : 2 * g.monitorRoom + (rest.map fun v => v.category).sum ≤ 8) (hdg : decode cc g.pc = .ok (.invokevirtual index, 3)) (hf : cells + mc ≤ R.cells ∧ slots + ms ≤ R.slots) :
    va_Run p l e R s m args below meth c H locs cells slots mc ms g rest (Qc (Value.ref b :: As).toArray) free := by
  obtain ⟨⟨hrc, hrs, hfr, hlo, hws, hcw⟩, hcode, hini, hy, hlen, hl, hin, hse⟩ := cw
  have hK : Back l R p e below s args y 3 8 (PreOf R mc ms Pc) (PostOf Qc mc ms free) := va_backW (hh := hh) (bytes := bytes) (maxL := maxL) (ret := ret) hM hp.1 hrc hrs hfr hlo hws hcw (fun a' U hW => word_at hW (Or.inl (by first | rfl | simp [Cond.onTables, Cond.keeps, Cond.steady])) hini)
  obtain ⟨hx, hb, hml, ho, -⟩ := S
  obtain ⟨-, ⟨cellB, hcB, hoB, hclB⟩, hPc⟩ := hp
  intro T hT X
  obtain ⟨v, vm₁, ⟨U', l2, c2, s2⟩, hW₁, X', ⟨g', mk, t, L, e1, e2, hq, h1, hL, h2, h3⟩, st⟩ := vx_callVW X hx (C := C) (hh := hh) (bytes := bytes) (maxL := maxL) (ret := ret) ho hl hin hse hcode hy hK (by rw [hT]; exact hcB) hoB hclB hg (hsize.trans hml.symm) (argsL := As) (rest := rest) (fun sig h => hn.trans (hlen sig h)) hstack hW (by rw [hb]; exact hdg)
    (fun vm₁ hW₁ => ⟨hf.1, hf.2, hPc (T.setVm vm₁) hT hW₁⟩)
  dsimp only [Pt.U, Pt.locs, Pt.cells, Pt.slots] at X' e1 e2 h1 h2 h3 st
  subst h1; subst h2; subst h3
  exact ⟨v, (T.setVm vm₁).calling g' mk (Value.ref b :: As).toArray, t, U', L, hT, X', hL, e1, e2, hq, st⟩
section
variable {y : MethodName} {bytes cc : ByteArray} {maxL nL mc ms n index : Nat} {ret : Option FieldType} {ws : List Cond} {rm : Room} {Pc : Array Value → State → Prop} {Qc : Array Value → State → Outcome → State → Prop} {XC : String → State → State → Prop} {free : Addr → Prop} {Ts : List Cond} {own C : String} {b : Addr} {As rest : List Value} {g : JFrame}
theorem vx_runVX {hh : List (Nat × Nat × Nat × Nat)} (S : CallFix p m c cc nL s args Ts own) (hM : vx_Met l y ws rm Pc Qc XC mc ms free) (cw : vx_CVW R s args own C index y bytes maxL ret hh ws rm mc ms n) (hp : PreV s H C b Pc As)
    (hg : g.method = m) (hn : As.length = n) (hsize : g.locals.size = nL) (hstack : g.stack = As.reverse ++ .ref b :: rest) (hW : 2 * g.monitorRoom + (rest.map fun v => v.category).sum ≤ 8) (hdg : decode cc g.pc = .ok (.invokevirtual index, 3)) (hf : cells + mc ≤ R.cells ∧ slots + ms ≤ R.slots) :
    vx_Run p l e R s m args below meth c H locs cells slots mc ms g rest (Qc (Value.ref b :: As).toArray) XC free := by
  obtain ⟨⟨hrc, hrs, hfr, hlo, hws, hcw⟩, hcode, hini, hy, hlen, hl, hin, hse⟩ := cw
  have hK : vx_Back l R p e below s args y 3 8 (PreOf R mc ms Pc) (PostOf Qc mc ms free) (vx_Post XC mc ms free) := vx_backW (hh := hh) (bytes := bytes) (maxL := maxL) (ret := ret) hM hp.1 hrc hrs hfr hlo hws hcw (fun a' U hW => word_at hW (Or.inl (by first | rfl | simp [Cond.onTables, Cond.keeps, Cond.steady])) hini)
  obtain ⟨hx, hb, hml, ho, -⟩ := S
  obtain ⟨-, ⟨cellB, hcB, hoB, hclB⟩, hPc⟩ := hp
  intro T hT X
  rcases vx_callVX X hx (C := C) (hh := hh) (bytes := bytes) (maxL := maxL) (ret := ret) ho hl hin hse hcode hy hK (by rw [hT]; exact hcB) hoB hclB hg (hsize.trans hml.symm) (argsL := As) (rest := rest) (fun sig h => hn.trans (hlen sig h)) hstack hW (by rw [hb]; exact hdg)
    (fun vm₁ hW₁ => ⟨hf.1, hf.2, hPc (T.setVm vm₁) hT hW₁⟩) with ⟨v, vm₁, ⟨U', l2, c2, s2⟩, hW₁, X', ⟨g', mk, t, L, e1, e2, hq, h1, hL, h2, h3⟩, st⟩ | ⟨q, vm₁, ⟨U', l2, c2, s2⟩, hW₁, X', ⟨g', mk, t, L, E, ce, e1, e2, hq, hce, hcv, hcl, h1, hL, h2, h3⟩, st⟩
  · dsimp only [Pt.U, Pt.locs, Pt.cells, Pt.slots] at X' e1 e2 h1 h2 h3 st
    subst h1; subst h2; subst h3
    exact Or.inl ⟨v, (T.setVm vm₁).calling g' mk (Value.ref b :: As).toArray, t, U', L, hT, X', hL, e1, e2, hq, st⟩
  · dsimp only [Pt.U, Pt.locs, Pt.cells, Pt.slots] at X' e1 e2 h1 h2 h3 st hcl
    subst h1; subst h2; subst h3
    exact Or.inr ⟨q, (T.setVm vm₁).calling g' mk (Value.ref b :: As).toArray, t, U', L, E, ce, hT, X', hL, e1, e2, hq, hce, hcv, vx_cls hW₁ hcl, st⟩
theorem vx_runSX {hh : List (Nat × Nat × Nat × Nat)} (S : CallFix p m c cc nL s args Ts own) (hM : vx_Met l y ws rm Pc Qc XC mc ms free) (cw : vx_CSW R s args own index y bytes maxL ret hh ws rm mc ms n) (hp : PreS s H Pc As)
    (hg : g.method = m) (hn : As.length = n) (hsize : g.locals.size = nL) (hstack : g.stack = As.reverse ++ rest) (hW : 2 * g.monitorRoom + (rest.map fun v => v.category).sum ≤ 8) (hdg : decode cc g.pc = .ok (.invokestatic index, 3)) (hf : cells + mc ≤ R.cells ∧ slots + ms ≤ R.slots) :
    vx_Run p l e R s m args below meth c H locs cells slots mc ms g rest (Qc As.toArray) XC free := by
  obtain ⟨⟨hrc, hrs, hfr, hlo, hws, hcw⟩, hcode, hini, hy, hlen, hl, hstt⟩ := cw
  have hK : vx_Back l R p e below s args y 3 8 (PreOf R mc ms Pc) (PostOf Qc mc ms free) (vx_Post XC mc ms free) := vx_backW (hh := hh) (bytes := bytes) (maxL := maxL) (ret := ret) hM hp.1 hrc hrs hfr hlo hws hcw (fun a' U hW => word_at hW (Or.inl (by first | rfl | simp [Cond.onTables, Cond.keeps, Cond.steady])) hini)
  obtain ⟨hx, hb, hml, ho, -⟩ := S
  intro T hT X
  rcases vx_callSX X hx (hh := hh) (bytes := bytes) (maxL := maxL) (ret := ret) ho hl hstt hini hcode hy hK hg (hsize.trans hml.symm) (argsL := As) (rest := rest) (fun sig h => hn.trans (hlen sig h)) hstack hW (by rw [hb]; exact hdg)
    (fun vm₁ hW₁ => ⟨hf.1, hf.2, hp.2 (T.setVm vm₁) hT hW₁⟩) with ⟨v, vm₁, ⟨U', l2, c2, s2⟩, hW₁, X', ⟨g', mk, t, L, e1, e2, hq, h1, hL, h2, h3⟩, st⟩ | ⟨q, vm₁, ⟨U', l2, c2, s2⟩, hW₁, X', ⟨g', mk, t, L, E, ce, e1, e2, hq, hce, hcv, hcl, h1, hL, h2, h3⟩, st⟩
  · dsimp only [Pt.U, Pt.locs, Pt.cells, Pt.slots] at X' e1 e2 h1 h2 h3 st
    subst h1; subst h2; subst h3
    exact Or.inl ⟨v, (T.setVm vm₁).calling g' mk As.toArray, t, U', L, hT, X', hL, e1, e2, hq, st⟩
  · dsimp only [Pt.U, Pt.locs, Pt.cells, Pt.slots] at X' e1 e2 h1 h2 h3 st hcl
    subst h1; subst h2; subst h3
    exact Or.inr ⟨q, (T.setVm vm₁).calling g' mk As.toArray, t, U', L, E, ce, hT, X', hL, e1, e2, hq, hce, hcv, vx_cls hW₁ hcl, st⟩
end
end VXH
theorem vx_ofWH {l : Launch} {y : MethodName} {ws ws' : List Cond} {rm : Room} {Pc : Array Value → State → Prop} {Qc : Array Value → State → Outcome → State → Prop} {XC : String → State → State → Prop} {mc ms : Nat} {free : Addr → Prop} {cc : ByteArray} {maxL : Nat} {ret : Option FieldType} {hh : List (Nat × Nat × Nat × Nat)}
    (hy : plainName y.cls = true) (hw : ws = Cond.codeWith y cc maxL ret hh :: ws')
    (body : ∀ p e s m args below meth c s₁, BodyLoose p l y (headSpec ws rm) cc maxL ret e s m args below meth c s₁ → c.maxLocals = maxL → Pc args s →
      W p l e (headSpec ws rm).room s m args below meth c s.heap [] 0 0 (vx_MQ below Qc XC args s mc ms free) (entryFrame m args maxL)) : vx_Met l y ws rm Pc Qc XC mc ms free := by
  refine MetFree.of_bodyS (code := cc) (maxLocals := maxL) (ret := ret) hy ?_ ?_
  · intro args s m h hn
    obtain ⟨m9, meth, c, hn9, h1, h2, h3, h4, -, h5, h6, -⟩ := Cond.codeWith_spec (atoms_spec (ws := ws) h _ (by rw [hw]; exact List.mem_cons_self))
    cases hn.symm.trans hn9
    exact ⟨meth, c, h1, h2, h3, h4, h5, h6⟩
  · intro p e s m args below meth c s₁ B hml hP _
    have hh0 : s₁.heap = s.heap := by rw [B.state]; rfl
    obtain ⟨t, a1, o, b1, b2, b3⟩ := body p e s m args below meth c s₁ B hml hP s₁ hh0 (Stand.of_body B)
    exact ⟨t, o, a1, b1, b2, b3⟩
/-! ===== END ===== -/


/-! A THROW OF A CALLEE, CAUGHT BY THE FIRST ENTRY OF THE CALLER'S TABLE, ITS TYPE LINKED OR NOT YET -/
section TNC
variable {p : Program} {l : Launch} {e : Env} {R : Room} {s : State} {m : MethodId} {args : Array Value} {below : List Frame} {meth : Method} {c : Code} {H : Heap} {locs : List Loc} {cells slots : Nat} {Q : State → Prop}
theorem tn_goF {Q : Handler → Pre} {E : CtlPost} {d : Bool} {acts : List Action} {S : State} {f : JFrame} {a : Addr} {x : ExceptionTableEntry} {t : List ExceptionTableEntry} {k : ClassId} {cell : Cell} (hx : covers x f.pc = true) (h0 : x.catchType ≠ 0)
    (hl : S.vm.ClassLinks e.platform f.method.cls x.catchType k) (hcell : S.heap[a]? = some cell) (hobj : ∀ z, cell.vm ≠ .statics z) (h1 : ∃ z, S.vm.classes[cell.cls]? = some z) (h2 : ∃ z, S.vm.classes[k]? = some z) (hfit : S.vm.assignable cell.cls k = true) :
    wp (findHandler.go f a (x :: t)) Q E e d acts S ↔ Q (.found x.handlerPc) d acts (S.setVm (S.vm.noted f.method.cls x.catchType (.cls k))) := by
  have hg := (resolveClass_links e.toSetting hl).op (op := VmOp.resolveClass f.method.cls x.catchType) rfl
  have hal : S.vm.Alike (S.vm.noted f.method.cls x.catchType (.cls k)) := (Vm.Alike.refl S.vm).noted _ _ _
  obtain ⟨z1, g1⟩ := h1
  obtain ⟨z2, g2⟩ := h2
  obtain ⟨y1, e1, -⟩ := hal.2.2 _ _ g1
  obtain ⟨y2, e2, -⟩ := hal.2.2 _ _ g2
  have e3 : (S.vm.noted f.method.cls x.catchType (.cls k)).assignable cell.cls k = true := by rw [hal.assignable]; exact hfit
  simp only [covers] at hx
  simp [findHandler.go, hx, h0, hg.1, hg.2, hcell, hobj, e1, e2, e3, VmOp.dirties, VmOp.acts]
theorem tn_stepF {S : State} {a : Addr} {f : JFrame} {r : List Frame} {pc : Nat} {vm' : Vm} (hf : ∀ (Q : Handler → Pre) (E : CtlPost) (d : Bool) (acts : List Action), wp (findHandler f a) Q E e d acts S ↔ Q (.found pc) d acts (S.setVm vm')) :
    (stepThrowing e S a (.java f :: r)).Is ((S.setVm vm').setFrames (.java { f with pc := pc, stack := [.ref a] } :: r)) [] := by
  simp only [stepThrowing, searchFrame, vmDo]
  generalize hr : Sem.go _ e false [] S = res
  obtain ⟨as, rfl, ha⟩ := Sem.eq_ok_of hr (a := Handler.found pc) (s' := S.setVm vm') (acts' := []) (by simp [hf _ _ _ _])
  exact ⟨rfl, ha⟩
theorem tn_catch {own name : String} {E : String} {ce : Cell} {q : Addr} {pc : Nat} {ls : Array Slot} {rest : List Value} (hown : s.vm.findClass own = some m.cls) (x : ExceptionTableEntry) (suf : List ExceptionTableEntry) (hsplit : c.exceptionTable.toList = x :: suf)
    (hx : covers x pc = true) (h0 : x.catchType ≠ 0) (hlink : (Cond.classLink own x.catchType name).before args s = true) (hcast : (Cond.castable E name).before args s = true) (hcell : H[q]? = some ce) (hv : ce.vm = .none) (hcl : s.vm.findClass E = some ce.cls)
    (kk : W p l e R s m args below meth c H locs cells slots Q (F0 m x.handlerPc ls [.ref q])) : vx_W p l e R s m args below meth c H locs cells slots Q (F0 m pc ls rest) q := by
  intro T hT X
  have hpl : e.platform.magicAccessors = ({} : Platform).magicAccessors := by rw [X.admits.platform]
  obtain ⟨c3, c4, hc3, hc4, hasg⟩ := Cond.castable_spec hcast
  cases Option.some.inj (hc3.symm.trans hcl)
  obtain ⟨c5, hc5, hcl5⟩ := Cond.classLink_spec hown hlink e.platform hpl
  cases Option.some.inj (hc4.symm.trans hc5)
  obtain ⟨k9, h9, -⟩ := Vm.findClass_spec hcl
  obtain ⟨dk, _, _, kt, hd, _, _, _, _, hkt, _, hopen⟩ := hcl5.here
  have hW' : s.WarmedH (T.vm.noted m.cls x.catchType (.cls c4)) := X.warmed.noted hd hopen (State.rightAt_cls hcl5)
  have X' := X.noted hW'
  obtain ⟨t, a1, b1⟩ := kk _ (show (T.setVm (T.vm.noted m.cls x.catchType (.cls c4))).heap = H from hT) X'
  refine ⟨t, ?_, b1⟩
  obtain ⟨k9', h9', -⟩ := X.warmed.alike.2.2 _ _ h9
  obtain ⟨kt', hkt', -⟩ := X.warmed.alike.2.2 _ _ hkt
  have hat : At T (F0 m pc ls rest).method c below := X.here
  have hm : ((T.setTop (F0 m pc ls rest)).pushFrame (.throwing q)).vm.method? (F0 m pc ls rest).method = some meth := by
    rw [Stand.throwing_vm]; exact X.method'
  have hf : ∀ (Q : Handler → Pre) (E : CtlPost) (d : Bool) (acts : List Action), wp (findHandler (F0 m pc ls rest) q) Q E e d acts ((T.setTop (F0 m pc ls rest)).pushFrame (.throwing q)) ↔ Q (.found x.handlerPc) d acts (((T.setTop (F0 m pc ls rest)).pushFrame (.throwing q)).setVm (T.vm.noted m.cls x.catchType (.cls c4))) := by
    intro Q E d acts
    rw [W.findHandler_eq hm X.code, hsplit]
    have hvm := Stand.throwing_vm T (F0 m pc ls rest) q
    refine (tn_goF (k := c4) (cell := ce) hx h0 ?_ ?_ ?_ ?_ ?_ ?_).trans ?_
    · rw [hvm]; exact X.warmed.classLinks hcl5
    · rw [Stand.throwing_heap, hT]; exact hcell
    · intro z hz; rw [hv] at hz; cases hz
    · rw [hvm]; exact ⟨k9', h9'⟩
    · rw [hvm]; exact ⟨kt', hkt'⟩
    · rw [hvm, X.warmed.alike.assignable]; exact hasg
    · rw [hvm]
  obtain ⟨hgo, hw⟩ := hat.throwing q
  refine Steps.head hgo hw ?_
  rw [stepThread_throwing (frames_entered hat.top _), (tn_stepF hf).1]
  obtain ⟨g₀, hg0⟩ := Option.isSome_iff_exists.mp hat.top
  obtain ⟨r, hr⟩ := State.topJava?_eq_some.mp hg0
  have hr' : (T.setVm (T.vm.noted m.cls x.catchType (.cls c4))).frames = .java g₀ :: r := hr
  rw [State.setTop_of_frames _ hr'] at a1
  have e1 : ∀ (u : State) (vm' : Vm) (F G : List Frame), ((u.setFrames F).setVm vm').setFrames G = (u.setVm vm').setFrames G := fun u vm' F G => by
    rw [show (u.setFrames F).setVm vm' = (u.setVm vm').setFrames F from rfl, State.setFrames_setFrames]
  rw [hr, List.tail_cons, State.pushFrame, e1, State.setTop_of_frames _ hr, e1]
  exact a1
end TNC
end
section
/-! ===== BEGIN printed: names, fields, word lists, decode rows ===== -/
def RX0 : String := "TimeNet"
def TX0 : u_T := fun k => match k with
  | 0 => ("TimeNet", "firstPoint", "[I", true)
  | 1 => ("TimeNet", "secondPoint", "[I", true)
  | 2 => ("TimeNet", "most", "[J", true)
  | 3 => ("TimeNet", "isOn", "[Z", true)
  | 4 => ("TimeNet", "count", "I", false)
  | 5 => ("TimeNet", "onCount", "I", false)
  | 6 => ("TimeNet", "lengthFrom", "[J", true)
  | 7 => ("TimeNet", "stepsFrom", "[I", true)
  | 8 => ("TimeNet", "rowPoints", "[I", true)
  | 9 => ("TimeNet", "rowSize", "I", false)
  | _ => ("TimeNet", "rowLength", "J", false)
def tyX0 : Nat → FieldType := fun k => match k with
  | 0 => .array .int
  | 1 => .array .int
  | 2 => .array .long
  | 3 => .array .boolean
  | 4 => .int
  | 5 => .int
  | 6 => .array .long
  | 7 => .array .int
  | 8 => .array .int
  | 9 => .int
  | _ => .long
abbrev wsX00 : List Cond := u_ws RX0 TX0 11
theorem nmX0 : ∀ a, a < 11 → ∀ b, b < 11 → a ≠ b → (TX0 a).2.1 ≠ (TX0 b).2.1 := by decide +kernel
theorem tyX0_ok : ∀ k, k < 11 → parseFieldDescriptor (TX0 k).2.2.1 = some (tyX0 k) := by decide +kernel
abbrev cX0_init : ByteArray := prog_1_method_1_code
def yX0_init : MethodName := ⟨RX0, "<init>", "()V"⟩
abbrev cX0_add : ByteArray := prog_1_method_2_code
def yX0_add : MethodName := ⟨RX0, "add", "(IIJ)I"⟩
abbrev cX0_off : ByteArray := prog_1_method_3_code
def yX0_off : MethodName := ⟨RX0, "off", "(I)Z"⟩
abbrev cX0_on : ByteArray := prog_1_method_4_code
def yX0_on : MethodName := ⟨RX0, "on", "(I)I"⟩
abbrev cX0_bound : ByteArray := prog_1_method_5_code
def yX0_bound : MethodName := ⟨RX0, "bound", "(II)J"⟩
abbrev cX0_steps : ByteArray := prog_1_method_6_code
def yX0_steps : MethodName := ⟨RX0, "steps", "(II)I"⟩
abbrev cX0_path : ByteArray := prog_1_method_7_code
def yX0_path : MethodName := ⟨RX0, "path", "(II)I"⟩
abbrev cX0_row : ByteArray := prog_1_method_8_code
def yX0_row : MethodName := ⟨RX0, "row", "()I"⟩
abbrev cX0_rowAt : ByteArray := prog_1_method_9_code
def yX0_rowAt : MethodName := ⟨RX0, "rowAt", "(I)I"⟩
abbrev cX0_length : ByteArray := prog_1_method_10_code
def yX0_length : MethodName := ⟨RX0, "length", "()J"⟩
abbrev cX0_earliest : ByteArray := prog_1_method_11_code
def yX0_earliest : MethodName := ⟨RX0, "earliest", "(I)J"⟩
abbrev cX0_slack : ByteArray := prog_1_method_12_code
def yX0_slack : MethodName := ⟨RX0, "slack", "(I)J"⟩
abbrev cX0_alive : ByteArray := prog_1_method_13_code
def yX0_alive : MethodName := ⟨RX0, "alive", "()I"⟩
abbrev cX0_isPoint : ByteArray := prog_1_method_14_code
def yX0_isPoint : MethodName := ⟨RX0, "isPoint", "(I)Z"⟩
abbrev cX0_isConstraint : ByteArray := prog_1_method_15_code
def yX0_isConstraint : MethodName := ⟨RX0, "isConstraint", "(IIJ)Z"⟩
abbrev cX0_isNumber : ByteArray := prog_1_method_16_code
def yX0_isNumber : MethodName := ⟨RX0, "isNumber", "(I)Z"⟩
abbrev cX0_refuse : ByteArray := prog_1_method_17_code
def yX0_refuse : MethodName := ⟨RX0, "refuse", "(IIJ)Z"⟩
abbrev cX0_findPath : ByteArray := prog_1_method_18_code
def yX0_findPath : MethodName := ⟨RX0, "findPath", "(II)Z"⟩
abbrev cX0_measureTo : ByteArray := prog_1_method_19_code
def yX0_measureTo : MethodName := ⟨RX0, "measureTo", "(I)V"⟩
abbrev cX0_improveAll : ByteArray := prog_1_method_20_code
def yX0_improveAll : MethodName := ⟨RX0, "improveAll", "()Z"⟩
abbrev cX0_improveBy : ByteArray := prog_1_method_21_code
def yX0_improveBy : MethodName := ⟨RX0, "improveBy", "(I)Z"⟩
abbrev cX0_appendBestFrom : ByteArray := prog_1_method_22_code
def yX0_appendBestFrom : MethodName := ⟨RX0, "appendBestFrom", "(I)V"⟩
abbrev cX0_append : ByteArray := prog_1_method_23_code
def yX0_append : MethodName := ⟨RX0, "append", "(I)V"⟩
abbrev cX0_nextOfBest : ByteArray := prog_1_method_24_code
def yX0_nextOfBest : MethodName := ⟨RX0, "nextOfBest", "(I)I"⟩
abbrev cX0_beginsBest : ByteArray := prog_1_method_25_code
def yX0_beginsBest : MethodName := ⟨RX0, "beginsBest", "(I)Z"⟩
def RX1 : String := "TimeNetModel"
def TX1 : u_T := fun k => match k with
  | 0 => ("TimeNetModel", "thrown", "I", false)
  | 1 => ("TimeNetModel", "size", "I", false)
  | 2 => ("TimeNetModel", "first", "[I", true)
  | 3 => ("TimeNetModel", "second", "[I", true)
  | 4 => ("TimeNetModel", "c", "[J", true)
  | 5 => ("TimeNetModel", "isOn", "[Z", true)
  | 6 => ("TimeNetModel", "rowSize", "I", false)
  | 7 => ("TimeNetModel", "row", "[I", true)
  | 8 => ("TimeNetModel", "rowLength", "J", false)
  | 9 => ("TimeNetModel", "least", "[J", true)
  | 10 => ("TimeNetModel", "bestLength", "J", false)
  | _ => ("TimeNetModel", "bestSteps", "I", false)
def tyX1 : Nat → FieldType := fun k => match k with
  | 0 => .int
  | 1 => .int
  | 2 => .array .int
  | 3 => .array .int
  | 4 => .array .long
  | 5 => .array .boolean
  | 6 => .int
  | 7 => .array .int
  | 8 => .long
  | 9 => .array .long
  | 10 => .long
  | _ => .int
abbrev wsX10 : List Cond := u_ws RX1 TX1 12
theorem nmX1 : ∀ a, a < 12 → ∀ b, b < 12 → a ≠ b → (TX1 a).2.1 ≠ (TX1 b).2.1 := by decide +kernel
theorem tyX1_ok : ∀ k, k < 12 → parseFieldDescriptor (TX1 k).2.2.1 = some (tyX1 k) := by decide +kernel
abbrev cX1_init : ByteArray := prog_3_method_1_code
def yX1_init : MethodName := ⟨RX1, "<init>", "()V"⟩
abbrev cX1_thrown : ByteArray := prog_3_method_2_code
def yX1_thrown : MethodName := ⟨RX1, "thrown", "()I"⟩
abbrev cX1_isPoint : ByteArray := prog_3_method_3_code
def yX1_isPoint : MethodName := ⟨RX1, "isPoint", "(I)Z"⟩
abbrev cX1_isThere : ByteArray := prog_3_method_4_code
def yX1_isThere : MethodName := ⟨RX1, "isThere", "(I)Z"⟩
abbrev cX1_step : ByteArray := prog_3_method_5_code
def yX1_step : MethodName := ⟨RX1, "step", "(II)J"⟩
abbrev cX1_best : ByteArray := prog_3_method_6_code
def yX1_best : MethodName := ⟨RX1, "best", "(II)Z"⟩
abbrev cX1_walk : ByteArray := prog_3_method_7_code
def yX1_walk : MethodName := ⟨RX1, "walk", "(I)V"⟩
abbrev cX1_isBad : ByteArray := prog_3_method_8_code
def yX1_isBad : MethodName := ⟨RX1, "isBad", "(IIJ)Z"⟩
abbrev cX1_add : ByteArray := prog_3_method_9_code
def yX1_add : MethodName := ⟨RX1, "add", "(IIJ)I"⟩
abbrev cX1_off : ByteArray := prog_3_method_10_code
def yX1_off : MethodName := ⟨RX1, "off", "(I)Z"⟩
abbrev cX1_on : ByteArray := prog_3_method_11_code
def yX1_on : MethodName := ⟨RX1, "on", "(I)I"⟩
abbrev cX1_bound : ByteArray := prog_3_method_12_code
def yX1_bound : MethodName := ⟨RX1, "bound", "(II)J"⟩
abbrev cX1_steps : ByteArray := prog_3_method_13_code
def yX1_steps : MethodName := ⟨RX1, "steps", "(II)I"⟩
abbrev cX1_path : ByteArray := prog_3_method_14_code
def yX1_path : MethodName := ⟨RX1, "path", "(II)I"⟩
abbrev cX1_row : ByteArray := prog_3_method_15_code
def yX1_row : MethodName := ⟨RX1, "row", "()I"⟩
abbrev cX1_rowAt : ByteArray := prog_3_method_16_code
def yX1_rowAt : MethodName := ⟨RX1, "rowAt", "(I)I"⟩
abbrev cX1_length : ByteArray := prog_3_method_17_code
def yX1_length : MethodName := ⟨RX1, "length", "()J"⟩
abbrev cX1_earliest : ByteArray := prog_3_method_18_code
def yX1_earliest : MethodName := ⟨RX1, "earliest", "(I)J"⟩
abbrev cX1_slack : ByteArray := prog_3_method_19_code
def yX1_slack : MethodName := ⟨RX1, "slack", "(I)J"⟩
abbrev cX1_alive : ByteArray := prog_3_method_20_code
def yX1_alive : MethodName := ⟨RX1, "alive", "()I"⟩
def RL : String := "TimeNetLaw"
abbrev cL_bound : ByteArray := method_3_code
def yL_bound : MethodName := ⟨RL, "bound", "(LTimeNet;II[J)I"⟩
abbrev cL_earliest : ByteArray := method_4_code
def yL_earliest : MethodName := ⟨RL, "earliest", "(LTimeNet;I[J)I"⟩
abbrev cL_law : ByteArray := code
def yL_law : MethodName := ⟨RL, "law", "([I)Z"⟩
def wsX0_init : List Cond := .code yX0_init cX0_init 1 none :: ([.methodLink RX0 1 objectInit, .instanceMethod objectInit, .code objectInit ⟨#[0xb1]⟩ 1 none, .arrayClass .int, .fieldLink RX0 9 "TimeNet" "firstPoint" "[I", .fieldLink RX0 13 "TimeNet" "secondPoint" "[I", .arrayClass .long, .fieldLink RX0 16 "TimeNet" "most" "[J", .arrayClass .boolean, .fieldLink RX0 20 "TimeNet" "isOn" "[Z", .fieldLink RX0 24 "TimeNet" "lengthFrom" "[J", .fieldLink RX0 27 "TimeNet" "stepsFrom" "[I", .fieldLink RX0 30 "TimeNet" "rowPoints" "[I"] ++ wsX00)
def wsX0_isPoint : List Cond := .code yX0_isPoint cX0_isPoint 1 (some .boolean) :: ([])
def wsX0_isConstraint : List Cond := .code yX0_isConstraint cX0_isConstraint 4 (some .boolean) :: ([.constantLong RX0 81 (-1000000000000), .constantLong RX0 83 (1000000000000), .methodLink RX0 51 yX0_isPoint, .static yX0_isPoint, .initialized RX0, .code yX0_isPoint cX0_isPoint 1 (some .boolean)])
def wsX0_improveBy : List Cond := .code yX0_improveBy cX0_improveBy 8 (some .boolean) :: ([.fieldLink RX0 9 "TimeNet" "firstPoint" "[I", .fieldLink RX0 13 "TimeNet" "secondPoint" "[I", .fieldLink RX0 24 "TimeNet" "lengthFrom" "[J", .constantLong RX0 75 (9223372036854775807), .fieldLink RX0 16 "TimeNet" "most" "[J", .fieldLink RX0 27 "TimeNet" "stepsFrom" "[I"] ++ wsX00)
def wsX0_improveAll : List Cond := .code yX0_improveAll cX0_improveAll 3 (some .boolean) :: ([.fieldLink RX0 33 "TimeNet" "count" "I", .fieldLink RX0 20 "TimeNet" "isOn" "[Z", .methodLink RX0 92 yX0_improveBy, .instanceMethod yX0_improveBy, .selects RX0 yX0_improveBy yX0_improveBy, .initialized RX0, .code yX0_improveBy cX0_improveBy 8 (some .boolean), .fieldLink RX0 9 "TimeNet" "firstPoint" "[I", .fieldLink RX0 13 "TimeNet" "secondPoint" "[I", .fieldLink RX0 24 "TimeNet" "lengthFrom" "[J", .constantLong RX0 75 (9223372036854775807), .fieldLink RX0 16 "TimeNet" "most" "[J", .fieldLink RX0 27 "TimeNet" "stepsFrom" "[I"] ++ wsX00)
def wsX0_measureTo : List Cond := .code yX0_measureTo cX0_measureTo 4 none :: ([.fieldLink RX0 24 "TimeNet" "lengthFrom" "[J", .constantLong RX0 75 (9223372036854775807), .fieldLink RX0 27 "TimeNet" "stepsFrom" "[I", .methodLink RX0 88 yX0_improveAll, .instanceMethod yX0_improveAll, .selects RX0 yX0_improveAll yX0_improveAll, .initialized RX0, .code yX0_improveAll cX0_improveAll 3 (some .boolean), .fieldLink RX0 33 "TimeNet" "count" "I", .fieldLink RX0 20 "TimeNet" "isOn" "[Z", .methodLink RX0 92 yX0_improveBy, .instanceMethod yX0_improveBy, .selects RX0 yX0_improveBy yX0_improveBy, .code yX0_improveBy cX0_improveBy 8 (some .boolean), .fieldLink RX0 9 "TimeNet" "firstPoint" "[I", .fieldLink RX0 13 "TimeNet" "secondPoint" "[I", .fieldLink RX0 16 "TimeNet" "most" "[J"] ++ wsX00)
def wsX0_findPath : List Cond := .code yX0_findPath cX0_findPath 3 (some .boolean) :: ([.fieldLink RX0 24 "TimeNet" "lengthFrom" "[J", .constantLong RX0 75 (9223372036854775807), .methodLink RX0 51 yX0_isPoint, .static yX0_isPoint, .initialized RX0, .code yX0_isPoint cX0_isPoint 1 (some .boolean), .methodLink RX0 57 yX0_measureTo, .instanceMethod yX0_measureTo, .selects RX0 yX0_measureTo yX0_measureTo, .code yX0_measureTo cX0_measureTo 4 none, .fieldLink RX0 27 "TimeNet" "stepsFrom" "[I", .methodLink RX0 88 yX0_improveAll, .instanceMethod yX0_improveAll, .selects RX0 yX0_improveAll yX0_improveAll, .code yX0_improveAll cX0_improveAll 3 (some .boolean), .fieldLink RX0 33 "TimeNet" "count" "I", .fieldLink RX0 20 "TimeNet" "isOn" "[Z", .methodLink RX0 92 yX0_improveBy, .instanceMethod yX0_improveBy, .selects RX0 yX0_improveBy yX0_improveBy, .code yX0_improveBy cX0_improveBy 8 (some .boolean), .fieldLink RX0 9 "TimeNet" "firstPoint" "[I", .fieldLink RX0 13 "TimeNet" "secondPoint" "[I", .fieldLink RX0 16 "TimeNet" "most" "[J"] ++ wsX00)
def wsX0_append : List Cond := .code yX0_append cX0_append 2 none :: ([.fieldLink RX0 65 "TimeNet" "rowSize" "I", .fieldLink RX0 30 "TimeNet" "rowPoints" "[I"] ++ wsX00)
def wsX0_beginsBest : List Cond := .code yX0_beginsBest cX0_beginsBest 4 (some .boolean) :: ([.fieldLink RX0 9 "TimeNet" "firstPoint" "[I", .fieldLink RX0 13 "TimeNet" "secondPoint" "[I", .fieldLink RX0 24 "TimeNet" "lengthFrom" "[J", .constantLong RX0 75 (9223372036854775807), .fieldLink RX0 16 "TimeNet" "most" "[J", .fieldLink RX0 27 "TimeNet" "stepsFrom" "[I"] ++ wsX00)
def wsX0_nextOfBest : List Cond := .code yX0_nextOfBest cX0_nextOfBest 4 (some .int) :: ([.fieldLink RX0 33 "TimeNet" "count" "I", .fieldLink RX0 9 "TimeNet" "firstPoint" "[I", .fieldLink RX0 13 "TimeNet" "secondPoint" "[I", .fieldLink RX0 20 "TimeNet" "isOn" "[Z", .methodLink RX0 99 yX0_beginsBest, .instanceMethod yX0_beginsBest, .selects RX0 yX0_beginsBest yX0_beginsBest, .initialized RX0, .code yX0_beginsBest cX0_beginsBest 4 (some .boolean), .fieldLink RX0 24 "TimeNet" "lengthFrom" "[J", .constantLong RX0 75 (9223372036854775807), .fieldLink RX0 16 "TimeNet" "most" "[J", .fieldLink RX0 27 "TimeNet" "stepsFrom" "[I"] ++ wsX00)
def wsX0_appendBestFrom : List Cond := .code yX0_appendBestFrom cX0_appendBestFrom 4 none :: ([.fieldLink RX0 27 "TimeNet" "stepsFrom" "[I", .methodLink RX0 85 yX0_append, .instanceMethod yX0_append, .selects RX0 yX0_append yX0_append, .initialized RX0, .code yX0_append cX0_append 2 none, .fieldLink RX0 65 "TimeNet" "rowSize" "I", .fieldLink RX0 30 "TimeNet" "rowPoints" "[I", .methodLink RX0 95 yX0_nextOfBest, .instanceMethod yX0_nextOfBest, .selects RX0 yX0_nextOfBest yX0_nextOfBest, .code yX0_nextOfBest cX0_nextOfBest 4 (some .int), .fieldLink RX0 33 "TimeNet" "count" "I", .fieldLink RX0 9 "TimeNet" "firstPoint" "[I", .fieldLink RX0 13 "TimeNet" "secondPoint" "[I", .fieldLink RX0 20 "TimeNet" "isOn" "[Z", .methodLink RX0 99 yX0_beginsBest, .instanceMethod yX0_beginsBest, .selects RX0 yX0_beginsBest yX0_beginsBest, .code yX0_beginsBest cX0_beginsBest 4 (some .boolean), .fieldLink RX0 24 "TimeNet" "lengthFrom" "[J", .constantLong RX0 75 (9223372036854775807), .fieldLink RX0 16 "TimeNet" "most" "[J"] ++ wsX00)
def wsX0_refuse_r1 : List Cond := [Cond.fieldLink RX0 24 "TimeNet" "lengthFrom" "[J", Cond.fieldLink RX0 65 "TimeNet" "rowSize" "I", Cond.fieldLink RX0 71 "TimeNet" "rowLength" "J", Cond.methodLink RX0 61 yX0_findPath, Cond.instanceMethod yX0_findPath, Cond.selects RX0 yX0_findPath yX0_findPath, Cond.initialized RX0, Cond.code yX0_findPath cX0_findPath 3 (some .boolean), Cond.constantLong RX0 75 (9223372036854775807), Cond.methodLink RX0 51 yX0_isPoint, Cond.static yX0_isPoint, Cond.code yX0_isPoint cX0_isPoint 1 (some .boolean), Cond.methodLink RX0 57 yX0_measureTo, Cond.instanceMethod yX0_measureTo, Cond.selects RX0 yX0_measureTo yX0_measureTo, Cond.code yX0_measureTo cX0_measureTo 4 none, Cond.fieldLink RX0 27 "TimeNet" "stepsFrom" "[I", Cond.methodLink RX0 88 yX0_improveAll, Cond.instanceMethod yX0_improveAll, Cond.selects RX0 yX0_improveAll yX0_improveAll, Cond.code yX0_improveAll cX0_improveAll 3 (some .boolean), Cond.fieldLink RX0 33 "TimeNet" "count" "I", Cond.fieldLink RX0 20 "TimeNet" "isOn" "[Z", Cond.methodLink RX0 92 yX0_improveBy]
def wsX0_refuse_r2 : List Cond := [Cond.instanceMethod yX0_improveBy, Cond.selects RX0 yX0_improveBy yX0_improveBy, Cond.code yX0_improveBy cX0_improveBy 8 (some .boolean), Cond.fieldLink RX0 9 "TimeNet" "firstPoint" "[I", Cond.fieldLink RX0 13 "TimeNet" "secondPoint" "[I", Cond.fieldLink RX0 16 "TimeNet" "most" "[J", Cond.methodLink RX0 85 yX0_append, Cond.instanceMethod yX0_append, Cond.selects RX0 yX0_append yX0_append, Cond.code yX0_append cX0_append 2 none, Cond.fieldLink RX0 30 "TimeNet" "rowPoints" "[I", Cond.methodLink RX0 68 yX0_appendBestFrom, Cond.instanceMethod yX0_appendBestFrom, Cond.selects RX0 yX0_appendBestFrom yX0_appendBestFrom, Cond.code yX0_appendBestFrom cX0_appendBestFrom 4 none, Cond.methodLink RX0 95 yX0_nextOfBest, Cond.instanceMethod yX0_nextOfBest, Cond.selects RX0 yX0_nextOfBest yX0_nextOfBest, Cond.code yX0_nextOfBest cX0_nextOfBest 4 (some .int), Cond.methodLink RX0 99 yX0_beginsBest, Cond.instanceMethod yX0_beginsBest, Cond.selects RX0 yX0_beginsBest yX0_beginsBest, Cond.code yX0_beginsBest cX0_beginsBest 4 (some .boolean)]
def wsX0_refuse : List Cond := .code yX0_refuse cX0_refuse 5 (some .boolean) :: ((wsX0_refuse_r1 ++ wsX0_refuse_r2) ++ wsX00)
def wsX0_add_r1 : List Cond := [Cond.fieldLink RX0 33 "TimeNet" "count" "I", Cond.fieldLink RX0 9 "TimeNet" "firstPoint" "[I", Cond.fieldLink RX0 13 "TimeNet" "secondPoint" "[I", Cond.fieldLink RX0 16 "TimeNet" "most" "[J", Cond.fieldLink RX0 20 "TimeNet" "isOn" "[Z", Cond.fieldLink RX0 44 "TimeNet" "onCount" "I", Cond.methodLink RX0 37 yX0_isConstraint, Cond.static yX0_isConstraint, Cond.initialized RX0, Cond.code yX0_isConstraint cX0_isConstraint 4 (some .boolean), Cond.constantLong RX0 81 (-1000000000000), Cond.constantLong RX0 83 (1000000000000), Cond.methodLink RX0 51 yX0_isPoint, Cond.static yX0_isPoint, Cond.code yX0_isPoint cX0_isPoint 1 (some .boolean), Cond.methodLink RX0 41 yX0_refuse, Cond.instanceMethod yX0_refuse, Cond.selects RX0 yX0_refuse yX0_refuse, Cond.code yX0_refuse cX0_refuse 5 (some .boolean), Cond.fieldLink RX0 24 "TimeNet" "lengthFrom" "[J", Cond.fieldLink RX0 65 "TimeNet" "rowSize" "I", Cond.fieldLink RX0 71 "TimeNet" "rowLength" "J", Cond.methodLink RX0 61 yX0_findPath, Cond.instanceMethod yX0_findPath]
def wsX0_add_r2 : List Cond := [Cond.selects RX0 yX0_findPath yX0_findPath, Cond.code yX0_findPath cX0_findPath 3 (some .boolean), Cond.constantLong RX0 75 (9223372036854775807), Cond.methodLink RX0 57 yX0_measureTo, Cond.instanceMethod yX0_measureTo, Cond.selects RX0 yX0_measureTo yX0_measureTo, Cond.code yX0_measureTo cX0_measureTo 4 none, Cond.fieldLink RX0 27 "TimeNet" "stepsFrom" "[I", Cond.methodLink RX0 88 yX0_improveAll, Cond.instanceMethod yX0_improveAll, Cond.selects RX0 yX0_improveAll yX0_improveAll, Cond.code yX0_improveAll cX0_improveAll 3 (some .boolean), Cond.methodLink RX0 92 yX0_improveBy, Cond.instanceMethod yX0_improveBy, Cond.selects RX0 yX0_improveBy yX0_improveBy, Cond.code yX0_improveBy cX0_improveBy 8 (some .boolean), Cond.methodLink RX0 85 yX0_append, Cond.instanceMethod yX0_append, Cond.selects RX0 yX0_append yX0_append, Cond.code yX0_append cX0_append 2 none, Cond.fieldLink RX0 30 "TimeNet" "rowPoints" "[I", Cond.methodLink RX0 68 yX0_appendBestFrom, Cond.instanceMethod yX0_appendBestFrom, Cond.selects RX0 yX0_appendBestFrom yX0_appendBestFrom]
def wsX0_add_r3 : List Cond := [Cond.code yX0_appendBestFrom cX0_appendBestFrom 4 none, Cond.methodLink RX0 95 yX0_nextOfBest, Cond.instanceMethod yX0_nextOfBest, Cond.selects RX0 yX0_nextOfBest yX0_nextOfBest, Cond.code yX0_nextOfBest cX0_nextOfBest 4 (some .int), Cond.methodLink RX0 99 yX0_beginsBest, Cond.instanceMethod yX0_beginsBest, Cond.selects RX0 yX0_beginsBest yX0_beginsBest, Cond.code yX0_beginsBest cX0_beginsBest 4 (some .boolean)]
def wsX0_add : List Cond := .code yX0_add cX0_add 6 (some .int) :: ((wsX0_add_r1 ++ (wsX0_add_r2 ++ wsX0_add_r3)) ++ wsX00)
def wsX0_isNumber : List Cond := .code yX0_isNumber cX0_isNumber 2 (some .boolean) :: ([.fieldLink RX0 33 "TimeNet" "count" "I"] ++ wsX00)
def wsX0_off : List Cond := .code yX0_off cX0_off 2 (some .boolean) :: ([.fieldLink RX0 20 "TimeNet" "isOn" "[Z", .fieldLink RX0 44 "TimeNet" "onCount" "I", .methodLink RX0 47 yX0_isNumber, .instanceMethod yX0_isNumber, .selects RX0 yX0_isNumber yX0_isNumber, .initialized RX0, .code yX0_isNumber cX0_isNumber 2 (some .boolean), .fieldLink RX0 33 "TimeNet" "count" "I"] ++ wsX00)
def wsX0_on_r1 : List Cond := [Cond.fieldLink RX0 20 "TimeNet" "isOn" "[Z", Cond.fieldLink RX0 9 "TimeNet" "firstPoint" "[I", Cond.fieldLink RX0 13 "TimeNet" "secondPoint" "[I", Cond.fieldLink RX0 16 "TimeNet" "most" "[J", Cond.fieldLink RX0 44 "TimeNet" "onCount" "I", Cond.methodLink RX0 47 yX0_isNumber, Cond.instanceMethod yX0_isNumber, Cond.selects RX0 yX0_isNumber yX0_isNumber, Cond.initialized RX0, Cond.code yX0_isNumber cX0_isNumber 2 (some .boolean), Cond.fieldLink RX0 33 "TimeNet" "count" "I", Cond.methodLink RX0 41 yX0_refuse, Cond.instanceMethod yX0_refuse, Cond.selects RX0 yX0_refuse yX0_refuse, Cond.code yX0_refuse cX0_refuse 5 (some .boolean), Cond.fieldLink RX0 24 "TimeNet" "lengthFrom" "[J", Cond.fieldLink RX0 65 "TimeNet" "rowSize" "I", Cond.fieldLink RX0 71 "TimeNet" "rowLength" "J", Cond.methodLink RX0 61 yX0_findPath, Cond.instanceMethod yX0_findPath, Cond.selects RX0 yX0_findPath yX0_findPath, Cond.code yX0_findPath cX0_findPath 3 (some .boolean), Cond.constantLong RX0 75 (9223372036854775807), Cond.methodLink RX0 51 yX0_isPoint]
def wsX0_on_r2 : List Cond := [Cond.static yX0_isPoint, Cond.code yX0_isPoint cX0_isPoint 1 (some .boolean), Cond.methodLink RX0 57 yX0_measureTo, Cond.instanceMethod yX0_measureTo, Cond.selects RX0 yX0_measureTo yX0_measureTo, Cond.code yX0_measureTo cX0_measureTo 4 none, Cond.fieldLink RX0 27 "TimeNet" "stepsFrom" "[I", Cond.methodLink RX0 88 yX0_improveAll, Cond.instanceMethod yX0_improveAll, Cond.selects RX0 yX0_improveAll yX0_improveAll, Cond.code yX0_improveAll cX0_improveAll 3 (some .boolean), Cond.methodLink RX0 92 yX0_improveBy, Cond.instanceMethod yX0_improveBy, Cond.selects RX0 yX0_improveBy yX0_improveBy, Cond.code yX0_improveBy cX0_improveBy 8 (some .boolean), Cond.methodLink RX0 85 yX0_append, Cond.instanceMethod yX0_append, Cond.selects RX0 yX0_append yX0_append, Cond.code yX0_append cX0_append 2 none, Cond.fieldLink RX0 30 "TimeNet" "rowPoints" "[I", Cond.methodLink RX0 68 yX0_appendBestFrom, Cond.instanceMethod yX0_appendBestFrom, Cond.selects RX0 yX0_appendBestFrom yX0_appendBestFrom, Cond.code yX0_appendBestFrom cX0_appendBestFrom 4 none]
def wsX0_on_r3 : List Cond := [Cond.methodLink RX0 95 yX0_nextOfBest, Cond.instanceMethod yX0_nextOfBest, Cond.selects RX0 yX0_nextOfBest yX0_nextOfBest, Cond.code yX0_nextOfBest cX0_nextOfBest 4 (some .int), Cond.methodLink RX0 99 yX0_beginsBest, Cond.instanceMethod yX0_beginsBest, Cond.selects RX0 yX0_beginsBest yX0_beginsBest, Cond.code yX0_beginsBest cX0_beginsBest 4 (some .boolean)]
def wsX0_on : List Cond := .code yX0_on cX0_on 2 (some .int) :: ((wsX0_on_r1 ++ (wsX0_on_r2 ++ wsX0_on_r3)) ++ wsX00)
def wsX0_bound_r1 : List Cond := [Cond.classLink RX0 54 "java/util/NoSuchElementException", Cond.initialized "java/util/NoSuchElementException", Cond.fieldLink RX0 24 "TimeNet" "lengthFrom" "[J", Cond.methodLink RX0 51 yX0_isPoint, Cond.static yX0_isPoint, Cond.initialized RX0, Cond.code yX0_isPoint cX0_isPoint 1 (some .boolean), Cond.methodLink RX0 57 yX0_measureTo, Cond.instanceMethod yX0_measureTo, Cond.selects RX0 yX0_measureTo yX0_measureTo, Cond.code yX0_measureTo cX0_measureTo 4 none, Cond.constantLong RX0 75 (9223372036854775807), Cond.fieldLink RX0 27 "TimeNet" "stepsFrom" "[I", Cond.methodLink RX0 88 yX0_improveAll, Cond.instanceMethod yX0_improveAll, Cond.selects RX0 yX0_improveAll yX0_improveAll, Cond.code yX0_improveAll cX0_improveAll 3 (some .boolean), Cond.fieldLink RX0 33 "TimeNet" "count" "I", Cond.fieldLink RX0 20 "TimeNet" "isOn" "[Z", Cond.methodLink RX0 92 yX0_improveBy, Cond.instanceMethod yX0_improveBy, Cond.selects RX0 yX0_improveBy yX0_improveBy, Cond.code yX0_improveBy cX0_improveBy 8 (some .boolean), Cond.fieldLink RX0 9 "TimeNet" "firstPoint" "[I"]
def wsX0_bound_r2 : List Cond := [Cond.fieldLink RX0 13 "TimeNet" "secondPoint" "[I", Cond.fieldLink RX0 16 "TimeNet" "most" "[J"]
def wsX0_bound : List Cond := .code yX0_bound cX0_bound 3 (some .long) :: ((wsX0_bound_r1 ++ wsX0_bound_r2) ++ wsX00 ++ (vx_at0 RX0 56 "java/util/NoSuchElementException" ["java/lang/RuntimeException", "java/lang/Exception"]).filter goodWord)
def wsX0_steps_r1 : List Cond := [Cond.fieldLink RX0 27 "TimeNet" "stepsFrom" "[I", Cond.methodLink RX0 61 yX0_findPath, Cond.instanceMethod yX0_findPath, Cond.selects RX0 yX0_findPath yX0_findPath, Cond.initialized RX0, Cond.code yX0_findPath cX0_findPath 3 (some .boolean), Cond.fieldLink RX0 24 "TimeNet" "lengthFrom" "[J", Cond.constantLong RX0 75 (9223372036854775807), Cond.methodLink RX0 51 yX0_isPoint, Cond.static yX0_isPoint, Cond.code yX0_isPoint cX0_isPoint 1 (some .boolean), Cond.methodLink RX0 57 yX0_measureTo, Cond.instanceMethod yX0_measureTo, Cond.selects RX0 yX0_measureTo yX0_measureTo, Cond.code yX0_measureTo cX0_measureTo 4 none, Cond.methodLink RX0 88 yX0_improveAll, Cond.instanceMethod yX0_improveAll, Cond.selects RX0 yX0_improveAll yX0_improveAll, Cond.code yX0_improveAll cX0_improveAll 3 (some .boolean), Cond.fieldLink RX0 33 "TimeNet" "count" "I", Cond.fieldLink RX0 20 "TimeNet" "isOn" "[Z", Cond.methodLink RX0 92 yX0_improveBy, Cond.instanceMethod yX0_improveBy, Cond.selects RX0 yX0_improveBy yX0_improveBy]
def wsX0_steps_r2 : List Cond := [Cond.code yX0_improveBy cX0_improveBy 8 (some .boolean), Cond.fieldLink RX0 9 "TimeNet" "firstPoint" "[I", Cond.fieldLink RX0 13 "TimeNet" "secondPoint" "[I", Cond.fieldLink RX0 16 "TimeNet" "most" "[J"]
def wsX0_steps : List Cond := .code yX0_steps cX0_steps 3 (some .int) :: ((wsX0_steps_r1 ++ wsX0_steps_r2) ++ wsX00)
def wsX0_path_r1 : List Cond := [Cond.fieldLink RX0 65 "TimeNet" "rowSize" "I", Cond.fieldLink RX0 24 "TimeNet" "lengthFrom" "[J", Cond.fieldLink RX0 71 "TimeNet" "rowLength" "J", Cond.methodLink RX0 61 yX0_findPath, Cond.instanceMethod yX0_findPath, Cond.selects RX0 yX0_findPath yX0_findPath, Cond.initialized RX0, Cond.code yX0_findPath cX0_findPath 3 (some .boolean), Cond.constantLong RX0 75 (9223372036854775807), Cond.methodLink RX0 51 yX0_isPoint, Cond.static yX0_isPoint, Cond.code yX0_isPoint cX0_isPoint 1 (some .boolean), Cond.methodLink RX0 57 yX0_measureTo, Cond.instanceMethod yX0_measureTo, Cond.selects RX0 yX0_measureTo yX0_measureTo, Cond.code yX0_measureTo cX0_measureTo 4 none, Cond.fieldLink RX0 27 "TimeNet" "stepsFrom" "[I", Cond.methodLink RX0 88 yX0_improveAll, Cond.instanceMethod yX0_improveAll, Cond.selects RX0 yX0_improveAll yX0_improveAll, Cond.code yX0_improveAll cX0_improveAll 3 (some .boolean), Cond.fieldLink RX0 33 "TimeNet" "count" "I", Cond.fieldLink RX0 20 "TimeNet" "isOn" "[Z", Cond.methodLink RX0 92 yX0_improveBy]
def wsX0_path_r2 : List Cond := [Cond.instanceMethod yX0_improveBy, Cond.selects RX0 yX0_improveBy yX0_improveBy, Cond.code yX0_improveBy cX0_improveBy 8 (some .boolean), Cond.fieldLink RX0 9 "TimeNet" "firstPoint" "[I", Cond.fieldLink RX0 13 "TimeNet" "secondPoint" "[I", Cond.fieldLink RX0 16 "TimeNet" "most" "[J", Cond.methodLink RX0 68 yX0_appendBestFrom, Cond.instanceMethod yX0_appendBestFrom, Cond.selects RX0 yX0_appendBestFrom yX0_appendBestFrom, Cond.code yX0_appendBestFrom cX0_appendBestFrom 4 none, Cond.methodLink RX0 85 yX0_append, Cond.instanceMethod yX0_append, Cond.selects RX0 yX0_append yX0_append, Cond.code yX0_append cX0_append 2 none, Cond.fieldLink RX0 30 "TimeNet" "rowPoints" "[I", Cond.methodLink RX0 95 yX0_nextOfBest, Cond.instanceMethod yX0_nextOfBest, Cond.selects RX0 yX0_nextOfBest yX0_nextOfBest, Cond.code yX0_nextOfBest cX0_nextOfBest 4 (some .int), Cond.methodLink RX0 99 yX0_beginsBest, Cond.instanceMethod yX0_beginsBest, Cond.selects RX0 yX0_beginsBest yX0_beginsBest, Cond.code yX0_beginsBest cX0_beginsBest 4 (some .boolean)]
def wsX0_path : List Cond := .code yX0_path cX0_path 3 (some .int) :: ((wsX0_path_r1 ++ wsX0_path_r2) ++ wsX00)
def wsX0_row : List Cond := .code yX0_row cX0_row 1 (some .int) :: ([.fieldLink RX0 65 "TimeNet" "rowSize" "I"] ++ wsX00)
def wsX0_rowAt : List Cond := .code yX0_rowAt cX0_rowAt 2 (some .int) :: ([.fieldLink RX0 65 "TimeNet" "rowSize" "I", .fieldLink RX0 30 "TimeNet" "rowPoints" "[I"] ++ wsX00)
def wsX0_length : List Cond := .code yX0_length cX0_length 1 (some .long) :: ([.fieldLink RX0 71 "TimeNet" "rowLength" "J"] ++ wsX00)
def wsX0_earliest_r1 : List Cond := [Cond.classLink RX0 54 "java/util/NoSuchElementException", Cond.initialized "java/util/NoSuchElementException", Cond.fieldLink RX0 24 "TimeNet" "lengthFrom" "[J", Cond.constantLong RX0 75 (9223372036854775807), Cond.constantLong RX0 77 (-9223372036854775808), Cond.methodLink RX0 51 yX0_isPoint, Cond.static yX0_isPoint, Cond.initialized RX0, Cond.code yX0_isPoint cX0_isPoint 1 (some .boolean), Cond.methodLink RX0 57 yX0_measureTo, Cond.instanceMethod yX0_measureTo, Cond.selects RX0 yX0_measureTo yX0_measureTo, Cond.code yX0_measureTo cX0_measureTo 4 none, Cond.fieldLink RX0 27 "TimeNet" "stepsFrom" "[I", Cond.methodLink RX0 88 yX0_improveAll, Cond.instanceMethod yX0_improveAll, Cond.selects RX0 yX0_improveAll yX0_improveAll, Cond.code yX0_improveAll cX0_improveAll 3 (some .boolean), Cond.fieldLink RX0 33 "TimeNet" "count" "I", Cond.fieldLink RX0 20 "TimeNet" "isOn" "[Z", Cond.methodLink RX0 92 yX0_improveBy, Cond.instanceMethod yX0_improveBy, Cond.selects RX0 yX0_improveBy yX0_improveBy, Cond.code yX0_improveBy cX0_improveBy 8 (some .boolean)]
def wsX0_earliest_r2 : List Cond := [Cond.fieldLink RX0 9 "TimeNet" "firstPoint" "[I", Cond.fieldLink RX0 13 "TimeNet" "secondPoint" "[I", Cond.fieldLink RX0 16 "TimeNet" "most" "[J"]
def wsX0_earliest : List Cond := .code yX0_earliest cX0_earliest 2 (some .long) :: ((wsX0_earliest_r1 ++ wsX0_earliest_r2) ++ wsX00 ++ (vx_at0 RX0 56 "java/util/NoSuchElementException" ["java/lang/RuntimeException", "java/lang/Exception"]).filter goodWord)
def wsX0_slack_r1 : List Cond := [Cond.fieldLink RX0 20 "TimeNet" "isOn" "[Z", Cond.constantLong RX0 79 (-1), Cond.fieldLink RX0 13 "TimeNet" "secondPoint" "[I", Cond.fieldLink RX0 16 "TimeNet" "most" "[J", Cond.fieldLink RX0 24 "TimeNet" "lengthFrom" "[J", Cond.fieldLink RX0 9 "TimeNet" "firstPoint" "[I", Cond.methodLink RX0 47 yX0_isNumber, Cond.instanceMethod yX0_isNumber, Cond.selects RX0 yX0_isNumber yX0_isNumber, Cond.initialized RX0, Cond.code yX0_isNumber cX0_isNumber 2 (some .boolean), Cond.fieldLink RX0 33 "TimeNet" "count" "I", Cond.methodLink RX0 57 yX0_measureTo, Cond.instanceMethod yX0_measureTo, Cond.selects RX0 yX0_measureTo yX0_measureTo, Cond.code yX0_measureTo cX0_measureTo 4 none, Cond.constantLong RX0 75 (9223372036854775807), Cond.fieldLink RX0 27 "TimeNet" "stepsFrom" "[I", Cond.methodLink RX0 88 yX0_improveAll, Cond.instanceMethod yX0_improveAll, Cond.selects RX0 yX0_improveAll yX0_improveAll, Cond.code yX0_improveAll cX0_improveAll 3 (some .boolean), Cond.methodLink RX0 92 yX0_improveBy, Cond.instanceMethod yX0_improveBy]
def wsX0_slack_r2 : List Cond := [Cond.selects RX0 yX0_improveBy yX0_improveBy, Cond.code yX0_improveBy cX0_improveBy 8 (some .boolean)]
def wsX0_slack : List Cond := .code yX0_slack cX0_slack 2 (some .long) :: ((wsX0_slack_r1 ++ wsX0_slack_r2) ++ wsX00)
def wsX0_alive : List Cond := .code yX0_alive cX0_alive 1 (some .int) :: ([.fieldLink RX0 44 "TimeNet" "onCount" "I"] ++ wsX00)
def wsX1_init : List Cond := .code yX1_init cX1_init 1 none :: ([.methodLink RX1 1 objectInit, .instanceMethod objectInit, .code objectInit ⟨#[0xb1]⟩ 1 none, .arrayClass .int, .fieldLink RX1 7 "TimeNetModel" "first" "[I", .fieldLink RX1 13 "TimeNetModel" "second" "[I", .arrayClass .long, .fieldLink RX1 16 "TimeNetModel" "c" "[J", .arrayClass .boolean, .fieldLink RX1 20 "TimeNetModel" "isOn" "[Z", .fieldLink RX1 24 "TimeNetModel" "row" "[I", .fieldLink RX1 27 "TimeNetModel" "least" "[J"] ++ wsX10)
def wsX1_thrown : List Cond := .code yX1_thrown cX1_thrown 1 (some .int) :: ([.fieldLink RX1 30 "TimeNetModel" "thrown" "I"] ++ wsX10)
def wsX1_isPoint : List Cond := .code yX1_isPoint cX1_isPoint 1 (some .boolean) :: ([])
def wsX1_isThere : List Cond := .code yX1_isThere cX1_isThere 2 (some .boolean) :: ([.fieldLink RX1 34 "TimeNetModel" "size" "I"] ++ wsX10)
def wsX1_step : List Cond := .code yX1_step cX1_step 6 (some .long) :: ([.constantLong RX1 37 (9223372036854775807), .fieldLink RX1 34 "TimeNetModel" "size" "I", .fieldLink RX1 20 "TimeNetModel" "isOn" "[Z", .fieldLink RX1 7 "TimeNetModel" "first" "[I", .fieldLink RX1 13 "TimeNetModel" "second" "[I", .fieldLink RX1 16 "TimeNetModel" "c" "[J"] ++ wsX10)
def wsX1_best : List Cond := .code yX1_best cX1_best 7 (some .boolean) :: ([.fieldLink RX1 27 "TimeNetModel" "least" "[J", .constantLong RX1 37 (9223372036854775807), .fieldLink RX1 34 "TimeNetModel" "size" "I", .fieldLink RX1 13 "TimeNetModel" "second" "[I", .fieldLink RX1 7 "TimeNetModel" "first" "[I", .fieldLink RX1 20 "TimeNetModel" "isOn" "[Z", .fieldLink RX1 16 "TimeNetModel" "c" "[J", .fieldLink RX1 39 "TimeNetModel" "bestSteps" "I", .fieldLink RX1 42 "TimeNetModel" "bestLength" "J"] ++ wsX10)
def wsX1_walk : List Cond := .code yX1_walk cX1_walk 5 none :: ([.fieldLink RX1 39 "TimeNetModel" "bestSteps" "I", .constantLong RX1 37 (9223372036854775807), .fieldLink RX1 27 "TimeNetModel" "least" "[J", .fieldLink RX1 24 "TimeNetModel" "row" "[I", .fieldLink RX1 50 "TimeNetModel" "rowSize" "I", .methodLink RX1 46 yX1_step, .instanceMethod yX1_step, .selects RX1 yX1_step yX1_step, .initialized RX1, .code yX1_step cX1_step 6 (some .long), .fieldLink RX1 34 "TimeNetModel" "size" "I", .fieldLink RX1 20 "TimeNetModel" "isOn" "[Z", .fieldLink RX1 7 "TimeNetModel" "first" "[I", .fieldLink RX1 13 "TimeNetModel" "second" "[I", .fieldLink RX1 16 "TimeNetModel" "c" "[J"] ++ wsX10)
def wsX1_isBad_r1 : List Cond := [Cond.fieldLink RX1 42 "TimeNetModel" "bestLength" "J", Cond.fieldLink RX1 24 "TimeNetModel" "row" "[I", Cond.fieldLink RX1 50 "TimeNetModel" "rowSize" "I", Cond.fieldLink RX1 61 "TimeNetModel" "rowLength" "J", Cond.methodLink RX1 53 yX1_best, Cond.instanceMethod yX1_best, Cond.selects RX1 yX1_best yX1_best, Cond.initialized RX1, Cond.code yX1_best cX1_best 7 (some .boolean), Cond.fieldLink RX1 27 "TimeNetModel" "least" "[J", Cond.constantLong RX1 37 (9223372036854775807), Cond.fieldLink RX1 34 "TimeNetModel" "size" "I", Cond.fieldLink RX1 13 "TimeNetModel" "second" "[I", Cond.fieldLink RX1 7 "TimeNetModel" "first" "[I", Cond.fieldLink RX1 20 "TimeNetModel" "isOn" "[Z", Cond.fieldLink RX1 16 "TimeNetModel" "c" "[J", Cond.fieldLink RX1 39 "TimeNetModel" "bestSteps" "I", Cond.methodLink RX1 57 yX1_walk, Cond.instanceMethod yX1_walk, Cond.selects RX1 yX1_walk yX1_walk, Cond.code yX1_walk cX1_walk 5 none, Cond.methodLink RX1 46 yX1_step, Cond.instanceMethod yX1_step, Cond.selects RX1 yX1_step yX1_step]
def wsX1_isBad_r2 : List Cond := [Cond.code yX1_step cX1_step 6 (some .long)]
def wsX1_isBad : List Cond := .code yX1_isBad cX1_isBad 5 (some .boolean) :: ((wsX1_isBad_r1 ++ wsX1_isBad_r2) ++ wsX10)
def wsX1_add_r1 : List Cond := [Cond.fieldLink RX1 30 "TimeNetModel" "thrown" "I", Cond.constantLong RX1 68 (-1000000000000), Cond.constantLong RX1 70 (1000000000000), Cond.fieldLink RX1 34 "TimeNetModel" "size" "I", Cond.fieldLink RX1 7 "TimeNetModel" "first" "[I", Cond.fieldLink RX1 13 "TimeNetModel" "second" "[I", Cond.fieldLink RX1 16 "TimeNetModel" "c" "[J", Cond.fieldLink RX1 20 "TimeNetModel" "isOn" "[Z", Cond.methodLink RX1 64 yX1_isPoint, Cond.static yX1_isPoint, Cond.initialized RX1, Cond.code yX1_isPoint cX1_isPoint 1 (some .boolean), Cond.methodLink RX1 72 yX1_isBad, Cond.instanceMethod yX1_isBad, Cond.selects RX1 yX1_isBad yX1_isBad, Cond.code yX1_isBad cX1_isBad 5 (some .boolean), Cond.fieldLink RX1 42 "TimeNetModel" "bestLength" "J", Cond.fieldLink RX1 24 "TimeNetModel" "row" "[I", Cond.fieldLink RX1 50 "TimeNetModel" "rowSize" "I", Cond.fieldLink RX1 61 "TimeNetModel" "rowLength" "J", Cond.methodLink RX1 53 yX1_best, Cond.instanceMethod yX1_best, Cond.selects RX1 yX1_best yX1_best, Cond.code yX1_best cX1_best 7 (some .boolean)]
def wsX1_add_r2 : List Cond := [Cond.fieldLink RX1 27 "TimeNetModel" "least" "[J", Cond.constantLong RX1 37 (9223372036854775807), Cond.fieldLink RX1 39 "TimeNetModel" "bestSteps" "I", Cond.methodLink RX1 57 yX1_walk, Cond.instanceMethod yX1_walk, Cond.selects RX1 yX1_walk yX1_walk, Cond.code yX1_walk cX1_walk 5 none, Cond.methodLink RX1 46 yX1_step, Cond.instanceMethod yX1_step, Cond.selects RX1 yX1_step yX1_step, Cond.code yX1_step cX1_step 6 (some .long)]
def wsX1_add : List Cond := .code yX1_add cX1_add 5 (some .int) :: ((wsX1_add_r1 ++ wsX1_add_r2) ++ wsX10)
def wsX1_off : List Cond := .code yX1_off cX1_off 2 (some .boolean) :: ([.fieldLink RX1 30 "TimeNetModel" "thrown" "I", .fieldLink RX1 20 "TimeNetModel" "isOn" "[Z", .methodLink RX1 76 yX1_isThere, .instanceMethod yX1_isThere, .selects RX1 yX1_isThere yX1_isThere, .initialized RX1, .code yX1_isThere cX1_isThere 2 (some .boolean), .fieldLink RX1 34 "TimeNetModel" "size" "I"] ++ wsX10)
def wsX1_on_r1 : List Cond := [Cond.fieldLink RX1 30 "TimeNetModel" "thrown" "I", Cond.fieldLink RX1 20 "TimeNetModel" "isOn" "[Z", Cond.fieldLink RX1 7 "TimeNetModel" "first" "[I", Cond.fieldLink RX1 13 "TimeNetModel" "second" "[I", Cond.fieldLink RX1 16 "TimeNetModel" "c" "[J", Cond.methodLink RX1 76 yX1_isThere, Cond.instanceMethod yX1_isThere, Cond.selects RX1 yX1_isThere yX1_isThere, Cond.initialized RX1, Cond.code yX1_isThere cX1_isThere 2 (some .boolean), Cond.fieldLink RX1 34 "TimeNetModel" "size" "I", Cond.methodLink RX1 72 yX1_isBad, Cond.instanceMethod yX1_isBad, Cond.selects RX1 yX1_isBad yX1_isBad, Cond.code yX1_isBad cX1_isBad 5 (some .boolean), Cond.fieldLink RX1 42 "TimeNetModel" "bestLength" "J", Cond.fieldLink RX1 24 "TimeNetModel" "row" "[I", Cond.fieldLink RX1 50 "TimeNetModel" "rowSize" "I", Cond.fieldLink RX1 61 "TimeNetModel" "rowLength" "J", Cond.methodLink RX1 53 yX1_best, Cond.instanceMethod yX1_best, Cond.selects RX1 yX1_best yX1_best, Cond.code yX1_best cX1_best 7 (some .boolean), Cond.fieldLink RX1 27 "TimeNetModel" "least" "[J"]
def wsX1_on_r2 : List Cond := [Cond.constantLong RX1 37 (9223372036854775807), Cond.fieldLink RX1 39 "TimeNetModel" "bestSteps" "I", Cond.methodLink RX1 57 yX1_walk, Cond.instanceMethod yX1_walk, Cond.selects RX1 yX1_walk yX1_walk, Cond.code yX1_walk cX1_walk 5 none, Cond.methodLink RX1 46 yX1_step, Cond.instanceMethod yX1_step, Cond.selects RX1 yX1_step yX1_step, Cond.code yX1_step cX1_step 6 (some .long)]
def wsX1_on : List Cond := .code yX1_on cX1_on 2 (some .int) :: ((wsX1_on_r1 ++ wsX1_on_r2) ++ wsX10)
def wsX1_bound : List Cond := .code yX1_bound cX1_bound 3 (some .long) :: ([.fieldLink RX1 30 "TimeNetModel" "thrown" "I", .fieldLink RX1 42 "TimeNetModel" "bestLength" "J", .constantLong RX1 37 (9223372036854775807), .methodLink RX1 64 yX1_isPoint, .static yX1_isPoint, .initialized RX1, .code yX1_isPoint cX1_isPoint 1 (some .boolean), .methodLink RX1 53 yX1_best, .instanceMethod yX1_best, .selects RX1 yX1_best yX1_best, .code yX1_best cX1_best 7 (some .boolean), .fieldLink RX1 27 "TimeNetModel" "least" "[J", .fieldLink RX1 34 "TimeNetModel" "size" "I", .fieldLink RX1 13 "TimeNetModel" "second" "[I", .fieldLink RX1 7 "TimeNetModel" "first" "[I", .fieldLink RX1 20 "TimeNetModel" "isOn" "[Z", .fieldLink RX1 16 "TimeNetModel" "c" "[J", .fieldLink RX1 39 "TimeNetModel" "bestSteps" "I"] ++ wsX10)
def wsX1_steps : List Cond := .code yX1_steps cX1_steps 3 (some .int) :: ([.fieldLink RX1 30 "TimeNetModel" "thrown" "I", .fieldLink RX1 39 "TimeNetModel" "bestSteps" "I", .methodLink RX1 64 yX1_isPoint, .static yX1_isPoint, .initialized RX1, .code yX1_isPoint cX1_isPoint 1 (some .boolean), .methodLink RX1 53 yX1_best, .instanceMethod yX1_best, .selects RX1 yX1_best yX1_best, .code yX1_best cX1_best 7 (some .boolean), .fieldLink RX1 27 "TimeNetModel" "least" "[J", .constantLong RX1 37 (9223372036854775807), .fieldLink RX1 34 "TimeNetModel" "size" "I", .fieldLink RX1 13 "TimeNetModel" "second" "[I", .fieldLink RX1 7 "TimeNetModel" "first" "[I", .fieldLink RX1 20 "TimeNetModel" "isOn" "[Z", .fieldLink RX1 16 "TimeNetModel" "c" "[J", .fieldLink RX1 42 "TimeNetModel" "bestLength" "J"] ++ wsX10)
def wsX1_path_r1 : List Cond := [Cond.fieldLink RX1 30 "TimeNetModel" "thrown" "I", Cond.fieldLink RX1 24 "TimeNetModel" "row" "[I", Cond.fieldLink RX1 50 "TimeNetModel" "rowSize" "I", Cond.fieldLink RX1 42 "TimeNetModel" "bestLength" "J", Cond.fieldLink RX1 61 "TimeNetModel" "rowLength" "J", Cond.methodLink RX1 64 yX1_isPoint, Cond.static yX1_isPoint, Cond.initialized RX1, Cond.code yX1_isPoint cX1_isPoint 1 (some .boolean), Cond.methodLink RX1 53 yX1_best, Cond.instanceMethod yX1_best, Cond.selects RX1 yX1_best yX1_best, Cond.code yX1_best cX1_best 7 (some .boolean), Cond.fieldLink RX1 27 "TimeNetModel" "least" "[J", Cond.constantLong RX1 37 (9223372036854775807), Cond.fieldLink RX1 34 "TimeNetModel" "size" "I", Cond.fieldLink RX1 13 "TimeNetModel" "second" "[I", Cond.fieldLink RX1 7 "TimeNetModel" "first" "[I", Cond.fieldLink RX1 20 "TimeNetModel" "isOn" "[Z", Cond.fieldLink RX1 16 "TimeNetModel" "c" "[J", Cond.fieldLink RX1 39 "TimeNetModel" "bestSteps" "I", Cond.methodLink RX1 57 yX1_walk, Cond.instanceMethod yX1_walk, Cond.selects RX1 yX1_walk yX1_walk]
def wsX1_path_r2 : List Cond := [Cond.code yX1_walk cX1_walk 5 none, Cond.methodLink RX1 46 yX1_step, Cond.instanceMethod yX1_step, Cond.selects RX1 yX1_step yX1_step, Cond.code yX1_step cX1_step 6 (some .long)]
def wsX1_path : List Cond := .code yX1_path cX1_path 3 (some .int) :: ((wsX1_path_r1 ++ wsX1_path_r2) ++ wsX10)
def wsX1_row : List Cond := .code yX1_row cX1_row 1 (some .int) :: ([.fieldLink RX1 30 "TimeNetModel" "thrown" "I", .fieldLink RX1 50 "TimeNetModel" "rowSize" "I"] ++ wsX10)
def wsX1_rowAt : List Cond := .code yX1_rowAt cX1_rowAt 2 (some .int) :: ([.fieldLink RX1 30 "TimeNetModel" "thrown" "I", .fieldLink RX1 50 "TimeNetModel" "rowSize" "I", .fieldLink RX1 24 "TimeNetModel" "row" "[I"] ++ wsX10)
def wsX1_length : List Cond := .code yX1_length cX1_length 1 (some .long) :: ([.fieldLink RX1 30 "TimeNetModel" "thrown" "I", .fieldLink RX1 50 "TimeNetModel" "rowSize" "I", .fieldLink RX1 61 "TimeNetModel" "rowLength" "J"] ++ wsX10)
def wsX1_earliest : List Cond := .code yX1_earliest cX1_earliest 2 (some .long) :: ([.fieldLink RX1 30 "TimeNetModel" "thrown" "I", .fieldLink RX1 42 "TimeNetModel" "bestLength" "J", .constantLong RX1 79 (-9223372036854775808), .methodLink RX1 64 yX1_isPoint, .static yX1_isPoint, .initialized RX1, .code yX1_isPoint cX1_isPoint 1 (some .boolean), .methodLink RX1 53 yX1_best, .instanceMethod yX1_best, .selects RX1 yX1_best yX1_best, .code yX1_best cX1_best 7 (some .boolean), .fieldLink RX1 27 "TimeNetModel" "least" "[J", .constantLong RX1 37 (9223372036854775807), .fieldLink RX1 34 "TimeNetModel" "size" "I", .fieldLink RX1 13 "TimeNetModel" "second" "[I", .fieldLink RX1 7 "TimeNetModel" "first" "[I", .fieldLink RX1 20 "TimeNetModel" "isOn" "[Z", .fieldLink RX1 16 "TimeNetModel" "c" "[J", .fieldLink RX1 39 "TimeNetModel" "bestSteps" "I"] ++ wsX10)
def wsX1_slack : List Cond := .code yX1_slack cX1_slack 2 (some .long) :: ([.fieldLink RX1 30 "TimeNetModel" "thrown" "I", .fieldLink RX1 20 "TimeNetModel" "isOn" "[Z", .fieldLink RX1 7 "TimeNetModel" "first" "[I", .fieldLink RX1 13 "TimeNetModel" "second" "[I", .constantLong RX1 81 (-1), .fieldLink RX1 16 "TimeNetModel" "c" "[J", .fieldLink RX1 42 "TimeNetModel" "bestLength" "J", .methodLink RX1 76 yX1_isThere, .instanceMethod yX1_isThere, .selects RX1 yX1_isThere yX1_isThere, .initialized RX1, .code yX1_isThere cX1_isThere 2 (some .boolean), .fieldLink RX1 34 "TimeNetModel" "size" "I", .methodLink RX1 53 yX1_best, .instanceMethod yX1_best, .selects RX1 yX1_best yX1_best, .code yX1_best cX1_best 7 (some .boolean), .fieldLink RX1 27 "TimeNetModel" "least" "[J", .constantLong RX1 37 (9223372036854775807), .fieldLink RX1 39 "TimeNetModel" "bestSteps" "I"] ++ wsX10)
def wsX1_alive : List Cond := .code yX1_alive cX1_alive 3 (some .int) :: ([.fieldLink RX1 30 "TimeNetModel" "thrown" "I", .fieldLink RX1 34 "TimeNetModel" "size" "I", .fieldLink RX1 20 "TimeNetModel" "isOn" "[Z"] ++ wsX10)
def wsL_bound_r1 : List Cond := [Cond.classLink RL 13 "java/util/NoSuchElementException", Cond.methodLink RL 7 yX0_bound, Cond.instanceMethod yX0_bound, Cond.selects RX0 yX0_bound yX0_bound, Cond.initialized RX0, Cond.code yX0_bound cX0_bound 3 (some .long), Cond.classLink RX0 54 "java/util/NoSuchElementException", Cond.initialized "java/util/NoSuchElementException", Cond.fieldLink RX0 24 "TimeNet" "lengthFrom" "[J", Cond.methodLink RX0 51 yX0_isPoint, Cond.static yX0_isPoint, Cond.code yX0_isPoint cX0_isPoint 1 (some .boolean), Cond.methodLink RX0 57 yX0_measureTo, Cond.instanceMethod yX0_measureTo, Cond.selects RX0 yX0_measureTo yX0_measureTo, Cond.code yX0_measureTo cX0_measureTo 4 none, Cond.constantLong RX0 75 (9223372036854775807), Cond.fieldLink RX0 27 "TimeNet" "stepsFrom" "[I", Cond.methodLink RX0 88 yX0_improveAll, Cond.instanceMethod yX0_improveAll, Cond.selects RX0 yX0_improveAll yX0_improveAll, Cond.code yX0_improveAll cX0_improveAll 3 (some .boolean), Cond.fieldLink RX0 33 "TimeNet" "count" "I", Cond.fieldLink RX0 20 "TimeNet" "isOn" "[Z"]
def wsL_bound_r2 : List Cond := [Cond.methodLink RX0 92 yX0_improveBy, Cond.instanceMethod yX0_improveBy, Cond.selects RX0 yX0_improveBy yX0_improveBy, Cond.code yX0_improveBy cX0_improveBy 8 (some .boolean), Cond.fieldLink RX0 9 "TimeNet" "firstPoint" "[I", Cond.fieldLink RX0 13 "TimeNet" "secondPoint" "[I", Cond.fieldLink RX0 16 "TimeNet" "most" "[J"]
def wsL_bound : List Cond := .codeWith yL_bound cL_bound 5 (some .int) [(0, 9, 12, 13)] :: ((wsL_bound_r1 ++ wsL_bound_r2) ++ wsX00 ++ (vx_at0 RX0 56 "java/util/NoSuchElementException" ["java/lang/RuntimeException", "java/lang/Exception"]).filter goodWord)
def wsL_earliest_r1 : List Cond := [Cond.classLink RL 13 "java/util/NoSuchElementException", Cond.methodLink RL 15 yX0_earliest, Cond.instanceMethod yX0_earliest, Cond.selects RX0 yX0_earliest yX0_earliest, Cond.initialized RX0, Cond.code yX0_earliest cX0_earliest 2 (some .long), Cond.classLink RX0 54 "java/util/NoSuchElementException", Cond.initialized "java/util/NoSuchElementException", Cond.fieldLink RX0 24 "TimeNet" "lengthFrom" "[J", Cond.constantLong RX0 75 (9223372036854775807), Cond.constantLong RX0 77 (-9223372036854775808), Cond.methodLink RX0 51 yX0_isPoint, Cond.static yX0_isPoint, Cond.code yX0_isPoint cX0_isPoint 1 (some .boolean), Cond.methodLink RX0 57 yX0_measureTo, Cond.instanceMethod yX0_measureTo, Cond.selects RX0 yX0_measureTo yX0_measureTo, Cond.code yX0_measureTo cX0_measureTo 4 none, Cond.fieldLink RX0 27 "TimeNet" "stepsFrom" "[I", Cond.methodLink RX0 88 yX0_improveAll, Cond.instanceMethod yX0_improveAll, Cond.selects RX0 yX0_improveAll yX0_improveAll, Cond.code yX0_improveAll cX0_improveAll 3 (some .boolean), Cond.fieldLink RX0 33 "TimeNet" "count" "I"]
def wsL_earliest_r2 : List Cond := [Cond.fieldLink RX0 20 "TimeNet" "isOn" "[Z", Cond.methodLink RX0 92 yX0_improveBy, Cond.instanceMethod yX0_improveBy, Cond.selects RX0 yX0_improveBy yX0_improveBy, Cond.code yX0_improveBy cX0_improveBy 8 (some .boolean), Cond.fieldLink RX0 9 "TimeNet" "firstPoint" "[I", Cond.fieldLink RX0 13 "TimeNet" "secondPoint" "[I", Cond.fieldLink RX0 16 "TimeNet" "most" "[J"]
def wsL_earliest : List Cond := .codeWith yL_earliest cL_earliest 4 (some .int) [(0, 8, 11, 13)] :: ((wsL_earliest_r1 ++ wsL_earliest_r2) ++ wsX00 ++ (vx_at0 RX0 56 "java/util/NoSuchElementException" ["java/lang/RuntimeException", "java/lang/Exception"]).filter goodWord)
def wsL_law0_r1 : List Cond := [Cond.classLink RL 8 RX0, Cond.instantiable RX0 11, Cond.initialized RX0, Cond.classLink RL 20 RX1, Cond.instantiable RX1 12, Cond.initialized RX1, Cond.arrayClass .long, Cond.constantLong RL 23 (4294967295), Cond.methodLink RL 19 yX0_init, Cond.instanceMethod yX0_init, Cond.code yX0_init cX0_init 1 none, Cond.methodLink RX0 1 objectInit, Cond.instanceMethod objectInit, Cond.code objectInit ⟨#[0xb1]⟩ 1 none, Cond.arrayClass .int, Cond.fieldLink RX0 9 "TimeNet" "firstPoint" "[I", Cond.fieldLink RX0 13 "TimeNet" "secondPoint" "[I", Cond.fieldLink RX0 16 "TimeNet" "most" "[J", Cond.arrayClass .boolean, Cond.fieldLink RX0 20 "TimeNet" "isOn" "[Z", Cond.fieldLink RX0 24 "TimeNet" "lengthFrom" "[J", Cond.fieldLink RX0 27 "TimeNet" "stepsFrom" "[I", Cond.fieldLink RX0 30 "TimeNet" "rowPoints" "[I", Cond.methodLink RL 22 yX1_init]
def wsL_law0_r2 : List Cond := [Cond.instanceMethod yX1_init, Cond.code yX1_init cX1_init 1 none, Cond.methodLink RX1 1 objectInit, Cond.fieldLink RX1 7 "TimeNetModel" "first" "[I", Cond.fieldLink RX1 13 "TimeNetModel" "second" "[I", Cond.fieldLink RX1 16 "TimeNetModel" "c" "[J", Cond.fieldLink RX1 20 "TimeNetModel" "isOn" "[Z", Cond.fieldLink RX1 24 "TimeNetModel" "row" "[I", Cond.fieldLink RX1 27 "TimeNetModel" "least" "[J", Cond.methodLink RL 25 yX0_add, Cond.instanceMethod yX0_add, Cond.selects RX0 yX0_add yX0_add, Cond.code yX0_add cX0_add 6 (some .int), Cond.fieldLink RX0 33 "TimeNet" "count" "I", Cond.fieldLink RX0 44 "TimeNet" "onCount" "I", Cond.methodLink RX0 37 yX0_isConstraint, Cond.static yX0_isConstraint, Cond.code yX0_isConstraint cX0_isConstraint 4 (some .boolean), Cond.constantLong RX0 81 (-1000000000000), Cond.constantLong RX0 83 (1000000000000), Cond.methodLink RX0 51 yX0_isPoint, Cond.static yX0_isPoint, Cond.code yX0_isPoint cX0_isPoint 1 (some .boolean), Cond.methodLink RX0 41 yX0_refuse]
def wsL_law0_r3 : List Cond := [Cond.instanceMethod yX0_refuse, Cond.selects RX0 yX0_refuse yX0_refuse, Cond.code yX0_refuse cX0_refuse 5 (some .boolean), Cond.fieldLink RX0 65 "TimeNet" "rowSize" "I", Cond.fieldLink RX0 71 "TimeNet" "rowLength" "J", Cond.methodLink RX0 61 yX0_findPath, Cond.instanceMethod yX0_findPath, Cond.selects RX0 yX0_findPath yX0_findPath, Cond.code yX0_findPath cX0_findPath 3 (some .boolean), Cond.constantLong RX0 75 (9223372036854775807), Cond.methodLink RX0 57 yX0_measureTo, Cond.instanceMethod yX0_measureTo, Cond.selects RX0 yX0_measureTo yX0_measureTo, Cond.code yX0_measureTo cX0_measureTo 4 none, Cond.methodLink RX0 88 yX0_improveAll, Cond.instanceMethod yX0_improveAll, Cond.selects RX0 yX0_improveAll yX0_improveAll, Cond.code yX0_improveAll cX0_improveAll 3 (some .boolean), Cond.methodLink RX0 92 yX0_improveBy, Cond.instanceMethod yX0_improveBy, Cond.selects RX0 yX0_improveBy yX0_improveBy, Cond.code yX0_improveBy cX0_improveBy 8 (some .boolean), Cond.methodLink RX0 85 yX0_append, Cond.instanceMethod yX0_append]
def wsL_law0_r4 : List Cond := [Cond.selects RX0 yX0_append yX0_append, Cond.code yX0_append cX0_append 2 none, Cond.methodLink RX0 68 yX0_appendBestFrom, Cond.instanceMethod yX0_appendBestFrom, Cond.selects RX0 yX0_appendBestFrom yX0_appendBestFrom, Cond.code yX0_appendBestFrom cX0_appendBestFrom 4 none, Cond.methodLink RX0 95 yX0_nextOfBest, Cond.instanceMethod yX0_nextOfBest, Cond.selects RX0 yX0_nextOfBest yX0_nextOfBest, Cond.code yX0_nextOfBest cX0_nextOfBest 4 (some .int), Cond.methodLink RX0 99 yX0_beginsBest, Cond.instanceMethod yX0_beginsBest, Cond.selects RX0 yX0_beginsBest yX0_beginsBest, Cond.code yX0_beginsBest cX0_beginsBest 4 (some .boolean), Cond.methodLink RL 29 yX1_add, Cond.instanceMethod yX1_add, Cond.selects RX1 yX1_add yX1_add, Cond.code yX1_add cX1_add 5 (some .int), Cond.fieldLink RX1 30 "TimeNetModel" "thrown" "I", Cond.constantLong RX1 68 (-1000000000000), Cond.constantLong RX1 70 (1000000000000), Cond.fieldLink RX1 34 "TimeNetModel" "size" "I", Cond.methodLink RX1 64 yX1_isPoint, Cond.static yX1_isPoint]
def wsL_law0_r5 : List Cond := [Cond.code yX1_isPoint cX1_isPoint 1 (some .boolean), Cond.methodLink RX1 72 yX1_isBad, Cond.instanceMethod yX1_isBad, Cond.selects RX1 yX1_isBad yX1_isBad, Cond.code yX1_isBad cX1_isBad 5 (some .boolean), Cond.fieldLink RX1 42 "TimeNetModel" "bestLength" "J", Cond.fieldLink RX1 50 "TimeNetModel" "rowSize" "I", Cond.fieldLink RX1 61 "TimeNetModel" "rowLength" "J", Cond.methodLink RX1 53 yX1_best, Cond.instanceMethod yX1_best, Cond.selects RX1 yX1_best yX1_best, Cond.code yX1_best cX1_best 7 (some .boolean), Cond.constantLong RX1 37 (9223372036854775807), Cond.fieldLink RX1 39 "TimeNetModel" "bestSteps" "I", Cond.methodLink RX1 57 yX1_walk, Cond.instanceMethod yX1_walk, Cond.selects RX1 yX1_walk yX1_walk, Cond.code yX1_walk cX1_walk 5 none, Cond.methodLink RX1 46 yX1_step, Cond.instanceMethod yX1_step, Cond.selects RX1 yX1_step yX1_step, Cond.code yX1_step cX1_step 6 (some .long), Cond.methodLink RL 30 yX0_off, Cond.instanceMethod yX0_off]
def wsL_law0_r6 : List Cond := [Cond.selects RX0 yX0_off yX0_off, Cond.code yX0_off cX0_off 2 (some .boolean), Cond.methodLink RX0 47 yX0_isNumber, Cond.instanceMethod yX0_isNumber, Cond.selects RX0 yX0_isNumber yX0_isNumber, Cond.code yX0_isNumber cX0_isNumber 2 (some .boolean), Cond.methodLink RL 34 yX1_off, Cond.instanceMethod yX1_off, Cond.selects RX1 yX1_off yX1_off, Cond.code yX1_off cX1_off 2 (some .boolean), Cond.methodLink RX1 76 yX1_isThere, Cond.instanceMethod yX1_isThere, Cond.selects RX1 yX1_isThere yX1_isThere, Cond.code yX1_isThere cX1_isThere 2 (some .boolean), Cond.methodLink RL 35 yX0_on, Cond.instanceMethod yX0_on, Cond.selects RX0 yX0_on yX0_on, Cond.code yX0_on cX0_on 2 (some .int), Cond.methodLink RL 39 yX1_on, Cond.instanceMethod yX1_on, Cond.selects RX1 yX1_on yX1_on, Cond.code yX1_on cX1_on 2 (some .int), Cond.methodLink RL 40 yL_bound, Cond.static yL_bound]
def wsL_law0_r7 : List Cond := [Cond.initialized RL, Cond.codeWith yL_bound cL_bound 5 (some .int) [(0, 9, 12, 13)], Cond.classLink RL 13 "java/util/NoSuchElementException", Cond.methodLink RL 7 yX0_bound, Cond.instanceMethod yX0_bound, Cond.selects RX0 yX0_bound yX0_bound, Cond.code yX0_bound cX0_bound 3 (some .long), Cond.classLink RX0 54 "java/util/NoSuchElementException", Cond.initialized "java/util/NoSuchElementException", Cond.methodLink RL 45 yX1_bound, Cond.instanceMethod yX1_bound, Cond.selects RX1 yX1_bound yX1_bound, Cond.code yX1_bound cX1_bound 3 (some .long), Cond.methodLink RL 46 yX1_thrown, Cond.instanceMethod yX1_thrown, Cond.selects RX1 yX1_thrown yX1_thrown, Cond.code yX1_thrown cX1_thrown 1 (some .int), Cond.methodLink RL 50 yX0_steps, Cond.instanceMethod yX0_steps, Cond.selects RX0 yX0_steps yX0_steps, Cond.code yX0_steps cX0_steps 3 (some .int), Cond.methodLink RL 54 yX1_steps, Cond.instanceMethod yX1_steps, Cond.selects RX1 yX1_steps yX1_steps]
def wsL_law0_r8 : List Cond := [Cond.code yX1_steps cX1_steps 3 (some .int), Cond.methodLink RL 55 yX0_path, Cond.instanceMethod yX0_path, Cond.selects RX0 yX0_path yX0_path, Cond.code yX0_path cX0_path 3 (some .int), Cond.methodLink RL 58 yX1_path, Cond.instanceMethod yX1_path, Cond.selects RX1 yX1_path yX1_path, Cond.code yX1_path cX1_path 3 (some .int), Cond.methodLink RL 59 yX0_row, Cond.instanceMethod yX0_row, Cond.selects RX0 yX0_row yX0_row, Cond.code yX0_row cX0_row 1 (some .int), Cond.methodLink RL 62 yX1_row, Cond.instanceMethod yX1_row, Cond.selects RX1 yX1_row yX1_row, Cond.code yX1_row cX1_row 1 (some .int), Cond.methodLink RL 63 yX0_rowAt, Cond.instanceMethod yX0_rowAt, Cond.selects RX0 yX0_rowAt yX0_rowAt, Cond.code yX0_rowAt cX0_rowAt 2 (some .int), Cond.methodLink RL 66 yX1_rowAt, Cond.instanceMethod yX1_rowAt, Cond.selects RX1 yX1_rowAt yX1_rowAt]
def wsL_law0_r9 : List Cond := [Cond.code yX1_rowAt cX1_rowAt 2 (some .int), Cond.methodLink RL 67 yX0_length, Cond.instanceMethod yX0_length, Cond.selects RX0 yX0_length yX0_length, Cond.code yX0_length cX0_length 1 (some .long), Cond.methodLink RL 71 yX1_length, Cond.instanceMethod yX1_length, Cond.selects RX1 yX1_length yX1_length, Cond.code yX1_length cX1_length 1 (some .long), Cond.methodLink RL 72 yL_earliest, Cond.static yL_earliest, Cond.codeWith yL_earliest cL_earliest 4 (some .int) [(0, 8, 11, 13)], Cond.methodLink RL 15 yX0_earliest, Cond.instanceMethod yX0_earliest, Cond.selects RX0 yX0_earliest yX0_earliest, Cond.code yX0_earliest cX0_earliest 2 (some .long), Cond.constantLong RX0 77 (-9223372036854775808), Cond.methodLink RL 75 yX1_earliest, Cond.instanceMethod yX1_earliest, Cond.selects RX1 yX1_earliest yX1_earliest, Cond.code yX1_earliest cX1_earliest 2 (some .long), Cond.constantLong RX1 79 (-9223372036854775808), Cond.methodLink RL 76 yX0_slack, Cond.instanceMethod yX0_slack]
def wsL_law0_r10 : List Cond := [Cond.selects RX0 yX0_slack yX0_slack, Cond.code yX0_slack cX0_slack 2 (some .long), Cond.constantLong RX0 79 (-1), Cond.methodLink RL 79 yX1_slack, Cond.instanceMethod yX1_slack, Cond.selects RX1 yX1_slack yX1_slack, Cond.code yX1_slack cX1_slack 2 (some .long), Cond.constantLong RX1 81 (-1), Cond.methodLink RL 80 yX0_alive, Cond.instanceMethod yX0_alive, Cond.selects RX0 yX0_alive yX0_alive, Cond.code yX0_alive cX0_alive 1 (some .int), Cond.methodLink RL 83 yX1_alive, Cond.instanceMethod yX1_alive, Cond.selects RX1 yX1_alive yX1_alive, Cond.code yX1_alive cX1_alive 3 (some .int)]
def wsL_law0 : List Cond := (wsL_law0_r1 ++ (wsL_law0_r2 ++ (wsL_law0_r3 ++ (wsL_law0_r4 ++ (wsL_law0_r5 ++ (wsL_law0_r6 ++ (wsL_law0_r7 ++ (wsL_law0_r8 ++ (wsL_law0_r9 ++ wsL_law0_r10))))))))) ++ wsX00 ++ wsX10 ++ ([] : List Cond)
def wsL_law : List Cond := wsL_law0 ++ (vx_at0 RX0 56 "java/util/NoSuchElementException" ["java/lang/RuntimeException", "java/lang/Exception"]).filter goodWord
set_option maxRecDepth 20000 in
theorem wsL_law_in0 : ∀ w ∈ wsL_law0, w ∈ lw_tbl := fun w h => (goodIn_p wsL_law0 [27, 30, 239, 71, 74, 77, 83, 87, 91, 96, 100, 104, 108, 112, 116, 285, 288, 294, 298, 303, 307, 120, 124, 311, 315, 128, 319, 165, 323, 281, 132, 327, 136, 331, 140, 335, 144, 339, 148, 343, 233, 347, 152, 352, 157, 357] (by decide +kernel) (by decide +kernel) w h).1
theorem wsL_law_x0 : ∀ w ∈ (vx_at0 RX0 56 "java/util/NoSuchElementException" ["java/lang/RuntimeException", "java/lang/Exception"]).filter goodWord, w ∈ lw_tbl := by decide +kernel
theorem wsL_law_in : ∀ w ∈ wsL_law, w ∈ lw_tbl := fun w h => (List.mem_append.mp h).elim (fun h => wsL_law_in0 w h) (fun h => wsL_law_x0 w h)
theorem inlX0 : ∀ w ∈ wsX00, w ∈ wsL_law := fun _ h => List.mem_append_left _ (List.mem_append_left _ (List.mem_append_left _ (List.mem_append_right _ h)))
theorem inX0 : ∀ w ∈ wsX00, w ∈ lw_tbl := fun w h => wsL_law_in w (inlX0 w h)
theorem inlX1 : ∀ w ∈ wsX10, w ∈ wsL_law := fun _ h => List.mem_append_left _ (List.mem_append_left _ (List.mem_append_right _ h))
theorem inX1 : ∀ w ∈ wsX10, w ∈ lw_tbl := fun w h => wsL_law_in w (inlX1 w h)
abbrev vwCl : List vw_C := [(RX0, TX0, 11), (RX1, TX1, 12)]
end
section
set_option maxRecDepth 20000 in
theorem ggX0_add_X0_isConstraint : GoodIn wsX0_add wsX0_isConstraint := goodIn_r _ [10, 11, 12, 13, 14, 9, 15] (by decide +kernel) (by decide +kernel)
set_option maxRecDepth 20000 in
theorem gX0_add_X0_isConstraint : GoodIn wsX0_add (va_wsS RX0 37 yX0_isConstraint wsX0_isConstraint) := goodIn_app (goodIn_of _ (by decide +kernel)) ggX0_add_X0_isConstraint
set_option maxRecDepth 20000 in
theorem ggX0_add_X0_refuse : GoodIn wsX0_add wsX0_refuse := goodIn_r _ [19, 20, 21, 22, 23, 24, 25, 9, 26, 27, 13, 14, 15, 28, 29, 30, 31, 32, 33, 34, 35, 36, 1, 5, 37, 38, 39, 40, 2, 3, 4, 41, 42, 43, 44, 45, 46, 47, 48, 49, 50, 51, 52, 53, 54, 55, 56, 57, 58, 59, 60, 61, 62, 63, 64, 65, 66, 67, 68] (by decide +kernel) (by decide +kernel)
set_option maxRecDepth 20000 in
theorem gX0_add_X0_refuse : GoodIn wsX0_add (wsV RX0 41 RX0 yX0_refuse wsX0_refuse) := goodIn_app (goodIn_of _ (by decide +kernel)) ggX0_add_X0_refuse
set_option maxRecDepth 20000 in
theorem ggX0_off_X0_isNumber : GoodIn wsX0_off wsX0_isNumber := goodIn_r _ [7, 8, 9, 10, 11, 12, 13, 14, 15, 16, 17, 18, 19] (by decide +kernel) (by decide +kernel)
set_option maxRecDepth 20000 in
theorem gX0_off_X0_isNumber : GoodIn wsX0_off (wsV RX0 47 RX0 yX0_isNumber wsX0_isNumber) := goodIn_app (goodIn_of _ (by decide +kernel)) ggX0_off_X0_isNumber
set_option maxRecDepth 20000 in
theorem ggX0_on_X0_isNumber : GoodIn wsX0_on wsX0_isNumber := goodIn_r _ [10, 11, 57, 58, 59, 60, 61, 62, 63, 64, 65, 66, 67] (by decide +kernel) (by decide +kernel)
set_option maxRecDepth 20000 in
theorem gX0_on_X0_isNumber : GoodIn wsX0_on (wsV RX0 47 RX0 yX0_isNumber wsX0_isNumber) := goodIn_app (goodIn_of _ (by decide +kernel)) ggX0_on_X0_isNumber
set_option maxRecDepth 20000 in
theorem ggX0_on_X0_refuse : GoodIn wsX0_on wsX0_refuse := goodIn_r _ [15, 16, 17, 18, 19, 20, 21, 9, 22, 23, 24, 25, 26, 27, 28, 29, 30, 31, 32, 33, 34, 35, 11, 1, 36, 37, 38, 39, 2, 3, 4, 40, 41, 42, 43, 44, 45, 46, 47, 48, 49, 50, 51, 52, 53, 54, 55, 56, 57, 58, 59, 60, 61, 62, 63, 64, 65, 66, 67] (by decide +kernel) (by decide +kernel)
set_option maxRecDepth 20000 in
theorem gX0_on_X0_refuse : GoodIn wsX0_on (wsV RX0 41 RX0 yX0_refuse wsX0_refuse) := goodIn_app (goodIn_of _ (by decide +kernel)) ggX0_on_X0_refuse
set_option maxRecDepth 20000 in
theorem ggX0_bound_X0_isPoint : GoodIn wsX0_bound wsX0_isPoint := goodIn_r _ [7] (by decide +kernel) (by decide +kernel)
set_option maxRecDepth 20000 in
theorem gX0_bound_X0_isPoint : GoodIn wsX0_bound (va_wsS RX0 51 yX0_isPoint wsX0_isPoint) := goodIn_app (goodIn_of _ (by decide +kernel)) ggX0_bound_X0_isPoint
set_option maxRecDepth 20000 in
theorem ggX0_bound_X0_measureTo : GoodIn wsX0_bound wsX0_measureTo := goodIn_r _ [11, 3, 12, 13, 14, 15, 16, 6, 17, 18, 19, 20, 21, 22, 23, 24, 25, 26, 27, 28, 29, 30, 31, 32, 33, 34, 35, 36, 37] (by decide +kernel) (by decide +kernel)
set_option maxRecDepth 20000 in
theorem gX0_bound_X0_measureTo : GoodIn wsX0_bound (wsV RX0 57 RX0 yX0_measureTo wsX0_measureTo) := goodIn_app (goodIn_of _ (by decide +kernel)) ggX0_bound_X0_measureTo
set_option maxRecDepth 20000 in
theorem ggX0_steps_X0_findPath : GoodIn wsX0_steps wsX0_findPath := goodIn_r _ [6, 7, 8, 9, 10, 5, 11, 12, 13, 14, 15, 1, 16, 17, 18, 19, 20, 21, 22, 23, 24, 25, 26, 27, 28, 29, 30, 31, 32, 33, 34, 35, 36, 37, 38, 39] (by decide +kernel) (by decide +kernel)
set_option maxRecDepth 20000 in
theorem gX0_steps_X0_findPath : GoodIn wsX0_steps (wsV RX0 61 RX0 yX0_findPath wsX0_findPath) := goodIn_app (goodIn_of _ (by decide +kernel)) ggX0_steps_X0_findPath
set_option maxRecDepth 20000 in
theorem ggX0_path_X0_findPath : GoodIn wsX0_path wsX0_findPath := goodIn_r _ [8, 2, 9, 10, 11, 7, 12, 13, 14, 15, 16, 17, 18, 19, 20, 21, 22, 23, 24, 25, 26, 27, 28, 29, 30, 48, 49, 50, 51, 52, 53, 54, 55, 56, 57, 58] (by decide +kernel) (by decide +kernel)
set_option maxRecDepth 20000 in
theorem gX0_path_X0_findPath : GoodIn wsX0_path (wsV RX0 61 RX0 yX0_findPath wsX0_findPath) := goodIn_app (goodIn_of _ (by decide +kernel)) ggX0_path_X0_findPath
set_option maxRecDepth 20000 in
theorem ggX0_path_X0_appendBestFrom : GoodIn wsX0_path wsX0_appendBestFrom := goodIn_r _ [34, 17, 35, 36, 37, 7, 38, 1, 39, 40, 41, 42, 43, 22, 28, 29, 23, 44, 45, 46, 47, 2, 9, 30, 48, 49, 50, 51, 52, 53, 54, 55, 56, 57, 58] (by decide +kernel) (by decide +kernel)
set_option maxRecDepth 20000 in
theorem gX0_path_X0_appendBestFrom : GoodIn wsX0_path (wsV RX0 68 RX0 yX0_appendBestFrom wsX0_appendBestFrom) := goodIn_app (goodIn_of _ (by decide +kernel)) ggX0_path_X0_appendBestFrom
set_option maxRecDepth 20000 in
theorem ggX0_earliest_X0_isPoint : GoodIn wsX0_earliest wsX0_isPoint := goodIn_r _ [9] (by decide +kernel) (by decide +kernel)
set_option maxRecDepth 20000 in
theorem gX0_earliest_X0_isPoint : GoodIn wsX0_earliest (va_wsS RX0 51 yX0_isPoint wsX0_isPoint) := goodIn_app (goodIn_of _ (by decide +kernel)) ggX0_earliest_X0_isPoint
set_option maxRecDepth 20000 in
theorem ggX0_earliest_X0_measureTo : GoodIn wsX0_earliest wsX0_measureTo := goodIn_r _ [13, 3, 4, 14, 15, 16, 17, 8, 18, 19, 20, 21, 22, 23, 24, 25, 26, 27, 28, 29, 30, 31, 32, 33, 34, 35, 36, 37, 38] (by decide +kernel) (by decide +kernel)
set_option maxRecDepth 20000 in
theorem gX0_earliest_X0_measureTo : GoodIn wsX0_earliest (wsV RX0 57 RX0 yX0_measureTo wsX0_measureTo) := goodIn_app (goodIn_of _ (by decide +kernel)) ggX0_earliest_X0_measureTo
set_option maxRecDepth 20000 in
theorem ggX0_slack_X0_isNumber : GoodIn wsX0_slack wsX0_isNumber := goodIn_r _ [11, 12, 27, 28, 29, 30, 31, 32, 33, 34, 35, 36, 37] (by decide +kernel) (by decide +kernel)
set_option maxRecDepth 20000 in
theorem gX0_slack_X0_isNumber : GoodIn wsX0_slack (wsV RX0 47 RX0 yX0_isNumber wsX0_isNumber) := goodIn_app (goodIn_of _ (by decide +kernel)) ggX0_slack_X0_isNumber
set_option maxRecDepth 20000 in
theorem ggX0_slack_X0_measureTo : GoodIn wsX0_slack wsX0_measureTo := goodIn_r _ [16, 5, 17, 18, 19, 20, 21, 10, 22, 12, 1, 23, 24, 25, 26, 6, 3, 4, 27, 28, 29, 30, 31, 32, 33, 34, 35, 36, 37] (by decide +kernel) (by decide +kernel)
set_option maxRecDepth 20000 in
theorem gX0_slack_X0_measureTo : GoodIn wsX0_slack (wsV RX0 57 RX0 yX0_measureTo wsX0_measureTo) := goodIn_app (goodIn_of _ (by decide +kernel)) ggX0_slack_X0_measureTo
set_option maxRecDepth 20000 in
theorem ggX0_isConstraint_X0_isPoint : GoodIn wsX0_isConstraint wsX0_isPoint := goodIn_r _ [6] (by decide +kernel) (by decide +kernel)
set_option maxRecDepth 20000 in
theorem gX0_isConstraint_X0_isPoint : GoodIn wsX0_isConstraint (va_wsS RX0 51 yX0_isPoint wsX0_isPoint) := goodIn_app (goodIn_of _ (by decide +kernel)) ggX0_isConstraint_X0_isPoint
set_option maxRecDepth 20000 in
theorem ggX0_refuse_X0_findPath : GoodIn wsX0_refuse wsX0_findPath := goodIn_r _ [8, 1, 9, 10, 11, 7, 12, 13, 14, 15, 16, 17, 18, 19, 20, 21, 22, 23, 24, 25, 26, 27, 28, 29, 30, 48, 49, 50, 51, 52, 53, 54, 55, 56, 57, 58] (by decide +kernel) (by decide +kernel)
set_option maxRecDepth 20000 in
theorem gX0_refuse_X0_findPath : GoodIn wsX0_refuse (wsV RX0 61 RX0 yX0_findPath wsX0_findPath) := goodIn_app (goodIn_of _ (by decide +kernel)) ggX0_refuse_X0_findPath
set_option maxRecDepth 20000 in
theorem ggX0_refuse_X0_append : GoodIn wsX0_refuse wsX0_append := goodIn_r _ [34, 2, 35, 48, 49, 50, 51, 52, 53, 54, 55, 56, 57, 58] (by decide +kernel) (by decide +kernel)
set_option maxRecDepth 20000 in
theorem gX0_refuse_X0_append : GoodIn wsX0_refuse (wsV RX0 85 RX0 yX0_append wsX0_append) := goodIn_app (goodIn_of _ (by decide +kernel)) ggX0_refuse_X0_append
set_option maxRecDepth 20000 in
theorem ggX0_refuse_X0_appendBestFrom : GoodIn wsX0_refuse wsX0_appendBestFrom := goodIn_r _ [39, 17, 31, 32, 33, 7, 34, 2, 35, 40, 41, 42, 43, 22, 28, 29, 23, 44, 45, 46, 47, 1, 9, 30, 48, 49, 50, 51, 52, 53, 54, 55, 56, 57, 58] (by decide +kernel) (by decide +kernel)
set_option maxRecDepth 20000 in
theorem gX0_refuse_X0_appendBestFrom : GoodIn wsX0_refuse (wsV RX0 68 RX0 yX0_appendBestFrom wsX0_appendBestFrom) := goodIn_app (goodIn_of _ (by decide +kernel)) ggX0_refuse_X0_appendBestFrom
set_option maxRecDepth 20000 in
theorem ggX0_findPath_X0_isPoint : GoodIn wsX0_findPath wsX0_isPoint := goodIn_r _ [6] (by decide +kernel) (by decide +kernel)
set_option maxRecDepth 20000 in
theorem gX0_findPath_X0_isPoint : GoodIn wsX0_findPath (va_wsS RX0 51 yX0_isPoint wsX0_isPoint) := goodIn_app (goodIn_of _ (by decide +kernel)) ggX0_findPath_X0_isPoint
set_option maxRecDepth 20000 in
theorem ggX0_findPath_X0_measureTo : GoodIn wsX0_findPath wsX0_measureTo := goodIn_r _ [10, 1, 2, 11, 12, 13, 14, 5, 15, 16, 17, 18, 19, 20, 21, 22, 23, 24, 25, 26, 27, 28, 29, 30, 31, 32, 33, 34, 35] (by decide +kernel) (by decide +kernel)
set_option maxRecDepth 20000 in
theorem gX0_findPath_X0_measureTo : GoodIn wsX0_findPath (wsV RX0 57 RX0 yX0_measureTo wsX0_measureTo) := goodIn_app (goodIn_of _ (by decide +kernel)) ggX0_findPath_X0_measureTo
set_option maxRecDepth 20000 in
theorem ggX0_measureTo_X0_improveAll : GoodIn wsX0_measureTo wsX0_improveAll := goodIn_r _ [8, 9, 10, 11, 12, 13, 7, 14, 15, 16, 1, 2, 17, 3, 18, 19, 20, 21, 22, 23, 24, 25, 26, 27, 28] (by decide +kernel) (by decide +kernel)
set_option maxRecDepth 20000 in
theorem gX0_measureTo_X0_improveAll : GoodIn wsX0_measureTo (wsV RX0 88 RX0 yX0_improveAll wsX0_improveAll) := goodIn_app (goodIn_of _ (by decide +kernel)) ggX0_measureTo_X0_improveAll
set_option maxRecDepth 20000 in
theorem ggX0_improveAll_X0_improveBy : GoodIn wsX0_improveAll wsX0_improveBy := goodIn_r _ [7, 8, 9, 10, 11, 12, 13, 14, 15, 16, 17, 18, 19, 20, 21, 22, 23, 24] (by decide +kernel) (by decide +kernel)
set_option maxRecDepth 20000 in
theorem gX0_improveAll_X0_improveBy : GoodIn wsX0_improveAll (wsV RX0 92 RX0 yX0_improveBy wsX0_improveBy) := goodIn_app (goodIn_of _ (by decide +kernel)) ggX0_improveAll_X0_improveBy
set_option maxRecDepth 20000 in
theorem ggX0_appendBestFrom_X0_append : GoodIn wsX0_appendBestFrom wsX0_append := goodIn_r _ [6, 7, 8, 24, 25, 26, 27, 28, 29, 30, 31, 32, 33, 34] (by decide +kernel) (by decide +kernel)
set_option maxRecDepth 20000 in
theorem gX0_appendBestFrom_X0_append : GoodIn wsX0_appendBestFrom (wsV RX0 85 RX0 yX0_append wsX0_append) := goodIn_app (goodIn_of _ (by decide +kernel)) ggX0_appendBestFrom_X0_append
set_option maxRecDepth 20000 in
theorem ggX0_appendBestFrom_X0_nextOfBest : GoodIn wsX0_appendBestFrom wsX0_nextOfBest := goodIn_r _ [12, 13, 14, 15, 16, 17, 18, 19, 5, 20, 21, 22, 23, 1, 24, 25, 26, 27, 28, 29, 30, 31, 32, 33, 34] (by decide +kernel) (by decide +kernel)
set_option maxRecDepth 20000 in
theorem gX0_appendBestFrom_X0_nextOfBest : GoodIn wsX0_appendBestFrom (wsV RX0 95 RX0 yX0_nextOfBest wsX0_nextOfBest) := goodIn_app (goodIn_of _ (by decide +kernel)) ggX0_appendBestFrom_X0_nextOfBest
set_option maxRecDepth 20000 in
theorem ggX0_nextOfBest_X0_beginsBest : GoodIn wsX0_nextOfBest wsX0_beginsBest := goodIn_r _ [9, 2, 3, 10, 11, 12, 13, 14, 15, 16, 17, 18, 19, 20, 21, 22, 23, 24] (by decide +kernel) (by decide +kernel)
set_option maxRecDepth 20000 in
theorem gX0_nextOfBest_X0_beginsBest : GoodIn wsX0_nextOfBest (wsV RX0 99 RX0 yX0_beginsBest wsX0_beginsBest) := goodIn_app (goodIn_of _ (by decide +kernel)) ggX0_nextOfBest_X0_beginsBest
set_option maxRecDepth 20000 in
theorem ggX1_walk_X1_step : GoodIn wsX1_walk wsX1_step := goodIn_r _ [10, 2, 11, 12, 13, 14, 15, 16, 17, 18, 19, 20, 21, 22, 23, 24, 25, 26, 27] (by decide +kernel) (by decide +kernel)
set_option maxRecDepth 20000 in
theorem gX1_walk_X1_step : GoodIn wsX1_walk (wsV RX1 46 RX1 yX1_step wsX1_step) := goodIn_app (goodIn_of _ (by decide +kernel)) ggX1_walk_X1_step
set_option maxRecDepth 20000 in
theorem ggX1_isBad_X1_best : GoodIn wsX1_isBad wsX1_best := goodIn_r _ [9, 10, 11, 12, 13, 14, 15, 16, 17, 1, 26, 27, 28, 29, 30, 31, 32, 33, 34, 35, 36, 37] (by decide +kernel) (by decide +kernel)
set_option maxRecDepth 20000 in
theorem gX1_isBad_X1_best : GoodIn wsX1_isBad (wsV RX1 53 RX1 yX1_best wsX1_best) := goodIn_app (goodIn_of _ (by decide +kernel)) ggX1_isBad_X1_best
set_option maxRecDepth 20000 in
theorem ggX1_isBad_X1_walk : GoodIn wsX1_isBad wsX1_walk := goodIn_r _ [21, 17, 11, 10, 2, 3, 22, 23, 24, 8, 25, 12, 15, 14, 13, 16, 26, 27, 28, 29, 30, 31, 32, 33, 34, 35, 36, 37] (by decide +kernel) (by decide +kernel)
set_option maxRecDepth 20000 in
theorem gX1_isBad_X1_walk : GoodIn wsX1_isBad (wsV RX1 57 RX1 yX1_walk wsX1_walk) := goodIn_app (goodIn_of _ (by decide +kernel)) ggX1_isBad_X1_walk
set_option maxRecDepth 20000 in
theorem ggX1_add_X1_isPoint : GoodIn wsX1_add wsX1_isPoint := goodIn_r _ [12] (by decide +kernel) (by decide +kernel)
set_option maxRecDepth 20000 in
theorem gX1_add_X1_isPoint : GoodIn wsX1_add (va_wsS RX1 64 yX1_isPoint wsX1_isPoint) := goodIn_app (goodIn_of _ (by decide +kernel)) ggX1_add_X1_isPoint
set_option maxRecDepth 20000 in
theorem ggX1_add_X1_isBad : GoodIn wsX1_add wsX1_isBad := goodIn_r _ [16, 17, 18, 19, 20, 21, 22, 23, 11, 24, 25, 26, 4, 6, 5, 8, 7, 27, 28, 29, 30, 31, 32, 33, 34, 35, 36, 37, 38, 39, 40, 41, 42, 43, 44, 45, 46, 47] (by decide +kernel) (by decide +kernel)
set_option maxRecDepth 20000 in
theorem gX1_add_X1_isBad : GoodIn wsX1_add (wsV RX1 72 RX1 yX1_isBad wsX1_isBad) := goodIn_app (goodIn_of _ (by decide +kernel)) ggX1_add_X1_isBad
set_option maxRecDepth 20000 in
theorem ggX1_off_X1_isThere : GoodIn wsX1_off wsX1_isThere := goodIn_r _ [7, 8, 9, 10, 11, 12, 13, 14, 15, 16, 17, 18, 19, 20] (by decide +kernel) (by decide +kernel)
set_option maxRecDepth 20000 in
theorem gX1_off_X1_isThere : GoodIn wsX1_off (wsV RX1 76 RX1 yX1_isThere wsX1_isThere) := goodIn_app (goodIn_of _ (by decide +kernel)) ggX1_off_X1_isThere
set_option maxRecDepth 20000 in
theorem ggX1_on_X1_isThere : GoodIn wsX1_on wsX1_isThere := goodIn_r _ [10, 11, 35, 36, 37, 38, 39, 40, 41, 42, 43, 44, 45, 46] (by decide +kernel) (by decide +kernel)
set_option maxRecDepth 20000 in
theorem gX1_on_X1_isThere : GoodIn wsX1_on (wsV RX1 76 RX1 yX1_isThere wsX1_isThere) := goodIn_app (goodIn_of _ (by decide +kernel)) ggX1_on_X1_isThere
set_option maxRecDepth 20000 in
theorem ggX1_on_X1_isBad : GoodIn wsX1_on wsX1_isBad := goodIn_r _ [15, 16, 17, 18, 19, 20, 21, 22, 9, 23, 24, 25, 11, 4, 3, 2, 5, 26, 27, 28, 29, 30, 31, 32, 33, 34, 35, 36, 37, 38, 39, 40, 41, 42, 43, 44, 45, 46] (by decide +kernel) (by decide +kernel)
set_option maxRecDepth 20000 in
theorem gX1_on_X1_isBad : GoodIn wsX1_on (wsV RX1 72 RX1 yX1_isBad wsX1_isBad) := goodIn_app (goodIn_of _ (by decide +kernel)) ggX1_on_X1_isBad
set_option maxRecDepth 20000 in
theorem ggX1_bound_X1_isPoint : GoodIn wsX1_bound wsX1_isPoint := goodIn_r _ [7] (by decide +kernel) (by decide +kernel)
set_option maxRecDepth 20000 in
theorem gX1_bound_X1_isPoint : GoodIn wsX1_bound (va_wsS RX1 64 yX1_isPoint wsX1_isPoint) := goodIn_app (goodIn_of _ (by decide +kernel)) ggX1_bound_X1_isPoint
set_option maxRecDepth 20000 in
theorem ggX1_bound_X1_best : GoodIn wsX1_bound wsX1_best := goodIn_r _ [11, 12, 3, 13, 14, 15, 16, 17, 18, 2, 19, 20, 21, 22, 23, 24, 25, 26, 27, 28, 29, 30] (by decide +kernel) (by decide +kernel)
set_option maxRecDepth 20000 in
theorem gX1_bound_X1_best : GoodIn wsX1_bound (wsV RX1 53 RX1 yX1_best wsX1_best) := goodIn_app (goodIn_of _ (by decide +kernel)) ggX1_bound_X1_best
set_option maxRecDepth 20000 in
theorem ggX1_steps_X1_isPoint : GoodIn wsX1_steps wsX1_isPoint := goodIn_r _ [6] (by decide +kernel) (by decide +kernel)
set_option maxRecDepth 20000 in
theorem gX1_steps_X1_isPoint : GoodIn wsX1_steps (va_wsS RX1 64 yX1_isPoint wsX1_isPoint) := goodIn_app (goodIn_of _ (by decide +kernel)) ggX1_steps_X1_isPoint
set_option maxRecDepth 20000 in
theorem ggX1_steps_X1_best : GoodIn wsX1_steps wsX1_best := goodIn_r _ [10, 11, 12, 13, 14, 15, 16, 17, 2, 18, 19, 20, 21, 22, 23, 24, 25, 26, 27, 28, 29, 30] (by decide +kernel) (by decide +kernel)
set_option maxRecDepth 20000 in
theorem gX1_steps_X1_best : GoodIn wsX1_steps (wsV RX1 53 RX1 yX1_best wsX1_best) := goodIn_app (goodIn_of _ (by decide +kernel)) ggX1_steps_X1_best
set_option maxRecDepth 20000 in
theorem ggX1_path_X1_isPoint : GoodIn wsX1_path wsX1_isPoint := goodIn_r _ [9] (by decide +kernel) (by decide +kernel)
set_option maxRecDepth 20000 in
theorem gX1_path_X1_isPoint : GoodIn wsX1_path (va_wsS RX1 64 yX1_isPoint wsX1_isPoint) := goodIn_app (goodIn_of _ (by decide +kernel)) ggX1_path_X1_isPoint
set_option maxRecDepth 20000 in
theorem ggX1_path_X1_best : GoodIn wsX1_path wsX1_best := goodIn_r _ [13, 14, 15, 16, 17, 18, 19, 20, 21, 4, 30, 31, 32, 33, 34, 35, 36, 37, 38, 39, 40, 41] (by decide +kernel) (by decide +kernel)
set_option maxRecDepth 20000 in
theorem gX1_path_X1_best : GoodIn wsX1_path (wsV RX1 53 RX1 yX1_best wsX1_best) := goodIn_app (goodIn_of _ (by decide +kernel)) ggX1_path_X1_best
set_option maxRecDepth 20000 in
theorem ggX1_path_X1_walk : GoodIn wsX1_path wsX1_walk := goodIn_r _ [25, 21, 15, 14, 2, 3, 26, 27, 28, 8, 29, 16, 19, 18, 17, 20, 30, 31, 32, 33, 34, 35, 36, 37, 38, 39, 40, 41] (by decide +kernel) (by decide +kernel)
set_option maxRecDepth 20000 in
theorem gX1_path_X1_walk : GoodIn wsX1_path (wsV RX1 57 RX1 yX1_walk wsX1_walk) := goodIn_app (goodIn_of _ (by decide +kernel)) ggX1_path_X1_walk
set_option maxRecDepth 20000 in
theorem ggX1_earliest_X1_isPoint : GoodIn wsX1_earliest wsX1_isPoint := goodIn_r _ [7] (by decide +kernel) (by decide +kernel)
set_option maxRecDepth 20000 in
theorem gX1_earliest_X1_isPoint : GoodIn wsX1_earliest (va_wsS RX1 64 yX1_isPoint wsX1_isPoint) := goodIn_app (goodIn_of _ (by decide +kernel)) ggX1_earliest_X1_isPoint
set_option maxRecDepth 20000 in
theorem ggX1_earliest_X1_best : GoodIn wsX1_earliest wsX1_best := goodIn_r _ [11, 12, 13, 14, 15, 16, 17, 18, 19, 2, 20, 21, 22, 23, 24, 25, 26, 27, 28, 29, 30, 31] (by decide +kernel) (by decide +kernel)
set_option maxRecDepth 20000 in
theorem gX1_earliest_X1_best : GoodIn wsX1_earliest (wsV RX1 53 RX1 yX1_best wsX1_best) := goodIn_app (goodIn_of _ (by decide +kernel)) ggX1_earliest_X1_best
set_option maxRecDepth 20000 in
theorem ggX1_slack_X1_isThere : GoodIn wsX1_slack wsX1_isThere := goodIn_r _ [12, 13, 21, 22, 23, 24, 25, 26, 27, 28, 29, 30, 31, 32] (by decide +kernel) (by decide +kernel)
set_option maxRecDepth 20000 in
theorem gX1_slack_X1_isThere : GoodIn wsX1_slack (wsV RX1 76 RX1 yX1_isThere wsX1_isThere) := goodIn_app (goodIn_of _ (by decide +kernel)) ggX1_slack_X1_isThere
set_option maxRecDepth 20000 in
theorem ggX1_slack_X1_best : GoodIn wsX1_slack wsX1_best := goodIn_r _ [17, 18, 19, 13, 4, 3, 2, 6, 20, 7, 21, 22, 23, 24, 25, 26, 27, 28, 29, 30, 31, 32] (by decide +kernel) (by decide +kernel)
set_option maxRecDepth 20000 in
theorem gX1_slack_X1_best : GoodIn wsX1_slack (wsV RX1 53 RX1 yX1_best wsX1_best) := goodIn_app (goodIn_of _ (by decide +kernel)) ggX1_slack_X1_best
set_option maxRecDepth 20000 in
theorem ggL_bound_X0_bound : GoodIn wsL_bound wsX0_bound := goodIn_ca (goodIn_r _ [6, 7, 8, 9, 10, 11, 5, 12, 13, 14, 15, 16, 17, 18, 19, 20, 21, 22, 23, 24, 25, 26, 27, 28, 29, 30, 31, 32, 33, 34, 35, 36, 37, 38, 39, 40, 41, 42] (by decide +kernel) (by decide +kernel)) (goodIn_sub (fun _ h => List.mem_cons_of_mem _ (List.mem_append_right _ h)) (by decide +kernel))
set_option maxRecDepth 20000 in
theorem gL_bound_X0_bound : GoodIn wsL_bound (wsV RL 7 RX0 yX0_bound wsX0_bound) := goodIn_app (goodIn_of _ (by decide +kernel)) ggL_bound_X0_bound
set_option maxRecDepth 20000 in
theorem ggL_earliest_X0_earliest : GoodIn wsL_earliest wsX0_earliest := goodIn_ca (goodIn_r _ [6, 7, 8, 9, 10, 11, 12, 13, 5, 14, 15, 16, 17, 18, 19, 20, 21, 22, 23, 24, 25, 26, 27, 28, 29, 30, 31, 32, 33, 34, 35, 36, 37, 38, 39, 40, 41, 42, 43] (by decide +kernel) (by decide +kernel)) (goodIn_sub (fun _ h => List.mem_cons_of_mem _ (List.mem_append_right _ h)) (by decide +kernel))
set_option maxRecDepth 20000 in
theorem gL_earliest_X0_earliest : GoodIn wsL_earliest (wsV RL 15 RX0 yX0_earliest wsX0_earliest) := goodIn_app (goodIn_of _ (by decide +kernel)) ggL_earliest_X0_earliest
set_option maxRecDepth 20000 in
theorem ggL_law_X0_init : GoodIn wsL_law wsX0_init := goodIn_r _ [10, 11, 12, 13, 14, 15, 16, 6, 17, 18, 19, 20, 21, 22, 232, 233, 234, 235, 236, 237, 238, 239, 240, 241, 242] (by decide +kernel) (by decide +kernel)
set_option maxRecDepth 20000 in
theorem gL_law_X0_init : GoodIn wsL_law (wsX0_init) := ggL_law_X0_init
set_option maxRecDepth 20000 in
theorem ggL_law_X1_init : GoodIn wsL_law wsX1_init := goodIn_r _ [25, 26, 12, 13, 14, 27, 28, 6, 29, 18, 30, 31, 32, 243, 244, 245, 246, 247, 248, 249, 250, 251, 252, 253, 254] (by decide +kernel) (by decide +kernel)
set_option maxRecDepth 20000 in
theorem gL_law_X1_init : GoodIn wsL_law (wsX1_init) := ggL_law_X1_init
set_option maxRecDepth 20000 in
theorem ggL_law_X0_add : GoodIn wsL_law wsX0_add := goodIn_r _ [36, 37, 15, 16, 17, 19, 38, 39, 40, 2, 41, 42, 43, 44, 45, 46, 47, 48, 49, 50, 20, 51, 52, 53, 54, 55, 56, 57, 58, 59, 60, 61, 21, 62, 63, 64, 65, 66, 67, 68, 69, 70, 71, 72, 73, 22, 74, 75, 76, 77, 78, 79, 80, 81, 82, 83, 84, 85, 232, 233, 234, 235, 236, 237, 238, 239, 240, 241, 242] (by decide +kernel) (by decide +kernel)
set_option maxRecDepth 20000 in
theorem gL_law_X0_add : GoodIn wsL_law (wsV RL 25 RX0 yX0_add wsX0_add) := goodIn_app (goodIn_of _ (by decide +kernel)) ggL_law_X0_add
set_option maxRecDepth 20000 in
theorem ggL_law_X1_add : GoodIn wsL_law wsX1_add := goodIn_r _ [89, 90, 91, 92, 93, 27, 28, 29, 30, 94, 95, 5, 96, 97, 98, 99, 100, 101, 31, 102, 103, 104, 105, 106, 107, 32, 108, 109, 110, 111, 112, 113, 114, 115, 116, 117, 243, 244, 245, 246, 247, 248, 249, 250, 251, 252, 253, 254] (by decide +kernel) (by decide +kernel)
set_option maxRecDepth 20000 in
theorem gL_law_X1_add : GoodIn wsL_law (wsV RL 29 RX1 yX1_add wsX1_add) := goodIn_app (goodIn_of _ (by decide +kernel)) ggL_law_X1_add
set_option maxRecDepth 20000 in
theorem ggL_law_X0_off : GoodIn wsL_law wsX0_off := goodIn_r _ [121, 19, 38, 122, 123, 124, 2, 125, 37, 232, 233, 234, 235, 236, 237, 238, 239, 240, 241, 242] (by decide +kernel) (by decide +kernel)
set_option maxRecDepth 20000 in
theorem gL_law_X0_off : GoodIn wsL_law (wsV RL 30 RX0 yX0_off wsX0_off) := goodIn_app (goodIn_of _ (by decide +kernel)) ggL_law_X0_off
set_option maxRecDepth 20000 in
theorem ggL_law_X1_off : GoodIn wsL_law wsX1_off := goodIn_r _ [129, 90, 30, 130, 131, 132, 5, 133, 93, 243, 244, 245, 246, 247, 248, 249, 250, 251, 252, 253, 254] (by decide +kernel) (by decide +kernel)
set_option maxRecDepth 20000 in
theorem gL_law_X1_off : GoodIn wsL_law (wsV RL 34 RX1 yX1_off wsX1_off) := goodIn_app (goodIn_of _ (by decide +kernel)) ggL_law_X1_off
set_option maxRecDepth 20000 in
theorem ggL_law_X0_on : GoodIn wsL_law wsX0_on := goodIn_r _ [137, 19, 15, 16, 17, 38, 122, 123, 124, 2, 125, 37, 47, 48, 49, 50, 20, 51, 52, 53, 54, 55, 56, 57, 44, 45, 46, 58, 59, 60, 61, 21, 62, 63, 64, 65, 66, 67, 68, 69, 70, 71, 72, 73, 22, 74, 75, 76, 77, 78, 79, 80, 81, 82, 83, 84, 85, 232, 233, 234, 235, 236, 237, 238, 239, 240, 241, 242] (by decide +kernel) (by decide +kernel)
set_option maxRecDepth 20000 in
theorem gL_law_X0_on : GoodIn wsL_law (wsV RL 35 RX0 yX0_on wsX0_on) := goodIn_app (goodIn_of _ (by decide +kernel)) ggL_law_X0_on
set_option maxRecDepth 20000 in
theorem ggL_law_X1_on : GoodIn wsL_law wsX1_on := goodIn_r _ [141, 90, 30, 27, 28, 29, 130, 131, 132, 5, 133, 93, 97, 98, 99, 100, 101, 31, 102, 103, 104, 105, 106, 107, 32, 108, 109, 110, 111, 112, 113, 114, 115, 116, 117, 243, 244, 245, 246, 247, 248, 249, 250, 251, 252, 253, 254] (by decide +kernel) (by decide +kernel)
set_option maxRecDepth 20000 in
theorem gL_law_X1_on : GoodIn wsL_law (wsV RL 39 RX1 yX1_on wsX1_on) := goodIn_app (goodIn_of _ (by decide +kernel)) ggL_law_X1_on
set_option maxRecDepth 20000 in
theorem ggL_law_L_bound : GoodIn wsL_law wsL_bound := goodIn_ca (goodIn_r _ [145, 146, 147, 148, 149, 2, 150, 151, 152, 20, 44, 45, 46, 58, 59, 60, 61, 57, 21, 62, 63, 64, 65, 37, 19, 66, 67, 68, 69, 15, 16, 17, 232, 233, 234, 235, 236, 237, 238, 239, 240, 241, 242] (by decide +kernel) (by decide +kernel)) (goodIn_sub (fun _ h => List.mem_append_right _ h) (by decide +kernel))
set_option maxRecDepth 20000 in
theorem gL_law_L_bound : GoodIn wsL_law (va_wsS RL 40 yL_bound wsL_bound) := goodIn_app (goodIn_of _ (by decide +kernel)) ggL_law_L_bound
set_option maxRecDepth 20000 in
theorem ggL_law_X1_bound : GoodIn wsL_law wsX1_bound := goodIn_r _ [156, 90, 101, 108, 94, 95, 5, 96, 104, 105, 106, 107, 32, 93, 28, 27, 30, 29, 109, 243, 244, 245, 246, 247, 248, 249, 250, 251, 252, 253, 254] (by decide +kernel) (by decide +kernel)
set_option maxRecDepth 20000 in
theorem gL_law_X1_bound : GoodIn wsL_law (wsV RL 45 RX1 yX1_bound wsX1_bound) := goodIn_app (goodIn_of _ (by decide +kernel)) ggL_law_X1_bound
set_option maxRecDepth 20000 in
theorem ggL_law_X1_thrown : GoodIn wsL_law wsX1_thrown := goodIn_r _ [160, 90, 243, 244, 245, 246, 247, 248, 249, 250, 251, 252, 253, 254] (by decide +kernel) (by decide +kernel)
set_option maxRecDepth 20000 in
theorem gL_law_X1_thrown : GoodIn wsL_law (wsV RL 46 RX1 yX1_thrown wsX1_thrown) := goodIn_app (goodIn_of _ (by decide +kernel)) ggL_law_X1_thrown
set_option maxRecDepth 20000 in
theorem ggL_law_X0_steps : GoodIn wsL_law wsX0_steps := goodIn_r _ [164, 21, 53, 54, 55, 2, 56, 20, 57, 44, 45, 46, 58, 59, 60, 61, 62, 63, 64, 65, 37, 19, 66, 67, 68, 69, 15, 16, 17, 232, 233, 234, 235, 236, 237, 238, 239, 240, 241, 242] (by decide +kernel) (by decide +kernel)
set_option maxRecDepth 20000 in
theorem gL_law_X0_steps : GoodIn wsL_law (wsV RL 50 RX0 yX0_steps wsX0_steps) := goodIn_app (goodIn_of _ (by decide +kernel)) ggL_law_X0_steps
set_option maxRecDepth 20000 in
theorem ggL_law_X1_steps : GoodIn wsL_law wsX1_steps := goodIn_r _ [168, 90, 109, 94, 95, 5, 96, 104, 105, 106, 107, 32, 108, 93, 28, 27, 30, 29, 101, 243, 244, 245, 246, 247, 248, 249, 250, 251, 252, 253, 254] (by decide +kernel) (by decide +kernel)
set_option maxRecDepth 20000 in
theorem gL_law_X1_steps : GoodIn wsL_law (wsV RL 54 RX1 yX1_steps wsX1_steps) := goodIn_app (goodIn_of _ (by decide +kernel)) ggL_law_X1_steps
set_option maxRecDepth 20000 in
theorem ggL_law_X0_path : GoodIn wsL_law wsX0_path := goodIn_r _ [172, 51, 20, 52, 53, 54, 55, 2, 56, 57, 44, 45, 46, 58, 59, 60, 61, 21, 62, 63, 64, 65, 37, 19, 66, 67, 68, 69, 15, 16, 17, 74, 75, 76, 77, 70, 71, 72, 73, 22, 78, 79, 80, 81, 82, 83, 84, 85, 232, 233, 234, 235, 236, 237, 238, 239, 240, 241, 242] (by decide +kernel) (by decide +kernel)
set_option maxRecDepth 20000 in
theorem gL_law_X0_path : GoodIn wsL_law (wsV RL 55 RX0 yX0_path wsX0_path) := goodIn_app (goodIn_of _ (by decide +kernel)) ggL_law_X0_path
set_option maxRecDepth 20000 in
theorem ggL_law_X1_path : GoodIn wsL_law wsX1_path := goodIn_r _ [176, 90, 31, 102, 101, 103, 94, 95, 5, 96, 104, 105, 106, 107, 32, 108, 93, 28, 27, 30, 29, 109, 110, 111, 112, 113, 114, 115, 116, 117, 243, 244, 245, 246, 247, 248, 249, 250, 251, 252, 253, 254] (by decide +kernel) (by decide +kernel)
set_option maxRecDepth 20000 in
theorem gL_law_X1_path : GoodIn wsL_law (wsV RL 58 RX1 yX1_path wsX1_path) := goodIn_app (goodIn_of _ (by decide +kernel)) ggL_law_X1_path
set_option maxRecDepth 20000 in
theorem ggL_law_X0_row : GoodIn wsL_law wsX0_row := goodIn_r _ [180, 51, 232, 233, 234, 235, 236, 237, 238, 239, 240, 241, 242] (by decide +kernel) (by decide +kernel)
set_option maxRecDepth 20000 in
theorem gL_law_X0_row : GoodIn wsL_law (wsV RL 59 RX0 yX0_row wsX0_row) := goodIn_app (goodIn_of _ (by decide +kernel)) ggL_law_X0_row
set_option maxRecDepth 20000 in
theorem ggL_law_X1_row : GoodIn wsL_law wsX1_row := goodIn_r _ [184, 90, 102, 243, 244, 245, 246, 247, 248, 249, 250, 251, 252, 253, 254] (by decide +kernel) (by decide +kernel)
set_option maxRecDepth 20000 in
theorem gL_law_X1_row : GoodIn wsL_law (wsV RL 62 RX1 yX1_row wsX1_row) := goodIn_app (goodIn_of _ (by decide +kernel)) ggL_law_X1_row
set_option maxRecDepth 20000 in
theorem ggL_law_X0_rowAt : GoodIn wsL_law wsX0_rowAt := goodIn_r _ [188, 51, 22, 232, 233, 234, 235, 236, 237, 238, 239, 240, 241, 242] (by decide +kernel) (by decide +kernel)
set_option maxRecDepth 20000 in
theorem gL_law_X0_rowAt : GoodIn wsL_law (wsV RL 63 RX0 yX0_rowAt wsX0_rowAt) := goodIn_app (goodIn_of _ (by decide +kernel)) ggL_law_X0_rowAt
set_option maxRecDepth 20000 in
theorem ggL_law_X1_rowAt : GoodIn wsL_law wsX1_rowAt := goodIn_r _ [192, 90, 102, 31, 243, 244, 245, 246, 247, 248, 249, 250, 251, 252, 253, 254] (by decide +kernel) (by decide +kernel)
set_option maxRecDepth 20000 in
theorem gL_law_X1_rowAt : GoodIn wsL_law (wsV RL 66 RX1 yX1_rowAt wsX1_rowAt) := goodIn_app (goodIn_of _ (by decide +kernel)) ggL_law_X1_rowAt
set_option maxRecDepth 20000 in
theorem ggL_law_X0_length : GoodIn wsL_law wsX0_length := goodIn_r _ [196, 52, 232, 233, 234, 235, 236, 237, 238, 239, 240, 241, 242] (by decide +kernel) (by decide +kernel)
set_option maxRecDepth 20000 in
theorem gL_law_X0_length : GoodIn wsL_law (wsV RL 67 RX0 yX0_length wsX0_length) := goodIn_app (goodIn_of _ (by decide +kernel)) ggL_law_X0_length
set_option maxRecDepth 20000 in
theorem ggL_law_X1_length : GoodIn wsL_law wsX1_length := goodIn_r _ [200, 90, 102, 103, 243, 244, 245, 246, 247, 248, 249, 250, 251, 252, 253, 254] (by decide +kernel) (by decide +kernel)
set_option maxRecDepth 20000 in
theorem gL_law_X1_length : GoodIn wsL_law (wsV RL 71 RX1 yX1_length wsX1_length) := goodIn_app (goodIn_of _ (by decide +kernel)) ggL_law_X1_length
set_option maxRecDepth 20000 in
theorem ggL_law_L_earliest : GoodIn wsL_law wsL_earliest := goodIn_ca (goodIn_r _ [203, 146, 204, 205, 206, 2, 207, 151, 152, 20, 57, 208, 44, 45, 46, 58, 59, 60, 61, 21, 62, 63, 64, 65, 37, 19, 66, 67, 68, 69, 15, 16, 17, 232, 233, 234, 235, 236, 237, 238, 239, 240, 241, 242] (by decide +kernel) (by decide +kernel)) (goodIn_sub (fun _ h => List.mem_append_right _ h) (by decide +kernel))
set_option maxRecDepth 20000 in
theorem gL_law_L_earliest : GoodIn wsL_law (va_wsS RL 72 yL_earliest wsL_earliest) := goodIn_app (goodIn_of _ (by decide +kernel)) ggL_law_L_earliest
set_option maxRecDepth 20000 in
theorem ggL_law_X1_earliest : GoodIn wsL_law wsX1_earliest := goodIn_r _ [212, 90, 101, 213, 94, 95, 5, 96, 104, 105, 106, 107, 32, 108, 93, 28, 27, 30, 29, 109, 243, 244, 245, 246, 247, 248, 249, 250, 251, 252, 253, 254] (by decide +kernel) (by decide +kernel)
set_option maxRecDepth 20000 in
theorem gL_law_X1_earliest : GoodIn wsL_law (wsV RL 75 RX1 yX1_earliest wsX1_earliest) := goodIn_app (goodIn_of _ (by decide +kernel)) ggL_law_X1_earliest
set_option maxRecDepth 20000 in
theorem ggL_law_X0_slack : GoodIn wsL_law wsX0_slack := goodIn_r _ [217, 19, 218, 16, 17, 20, 15, 122, 123, 124, 2, 125, 37, 58, 59, 60, 61, 57, 21, 62, 63, 64, 65, 66, 67, 68, 69, 232, 233, 234, 235, 236, 237, 238, 239, 240, 241, 242] (by decide +kernel) (by decide +kernel)
set_option maxRecDepth 20000 in
theorem gL_law_X0_slack : GoodIn wsL_law (wsV RL 76 RX0 yX0_slack wsX0_slack) := goodIn_app (goodIn_of _ (by decide +kernel)) ggL_law_X0_slack
set_option maxRecDepth 20000 in
theorem ggL_law_X1_slack : GoodIn wsL_law wsX1_slack := goodIn_r _ [222, 90, 30, 27, 28, 223, 29, 101, 130, 131, 132, 5, 133, 93, 104, 105, 106, 107, 32, 108, 109, 243, 244, 245, 246, 247, 248, 249, 250, 251, 252, 253, 254] (by decide +kernel) (by decide +kernel)
set_option maxRecDepth 20000 in
theorem gL_law_X1_slack : GoodIn wsL_law (wsV RL 79 RX1 yX1_slack wsX1_slack) := goodIn_app (goodIn_of _ (by decide +kernel)) ggL_law_X1_slack
set_option maxRecDepth 20000 in
theorem ggL_law_X0_alive : GoodIn wsL_law wsX0_alive := goodIn_r _ [227, 38, 232, 233, 234, 235, 236, 237, 238, 239, 240, 241, 242] (by decide +kernel) (by decide +kernel)
set_option maxRecDepth 20000 in
theorem gL_law_X0_alive : GoodIn wsL_law (wsV RL 80 RX0 yX0_alive wsX0_alive) := goodIn_app (goodIn_of _ (by decide +kernel)) ggL_law_X0_alive
set_option maxRecDepth 20000 in
theorem ggL_law_X1_alive : GoodIn wsL_law wsX1_alive := goodIn_r _ [231, 90, 93, 30, 243, 244, 245, 246, 247, 248, 249, 250, 251, 252, 253, 254] (by decide +kernel) (by decide +kernel)
set_option maxRecDepth 20000 in
theorem gL_law_X1_alive : GoodIn wsL_law (wsV RL 83 RX1 yX1_alive wsX1_alive) := goodIn_app (goodIn_of _ (by decide +kernel)) ggL_law_X1_alive
end
section
theorem dX0_init_0 : decode cX0_init 0 = .ok (.aload_n 0, 1) := by decide +kernel
theorem dX0_init_1 : decode cX0_init 1 = .ok (.invokespecial 1, 3) := by decide +kernel
theorem dX0_init_4 : decode cX0_init 4 = .ok (.aload_n 0, 1) := by decide +kernel
theorem dX0_init_5 : decode cX0_init 5 = .ok (.bipush 120, 2) := by decide +kernel
theorem dX0_init_7 : decode cX0_init 7 = .ok (.newarray .int, 2) := by decide +kernel
theorem dX0_init_9 : decode cX0_init 9 = .ok (.putfield 9, 3) := by decide +kernel
theorem dX0_init_12 : decode cX0_init 12 = .ok (.aload_n 0, 1) := by decide +kernel
theorem dX0_init_13 : decode cX0_init 13 = .ok (.bipush 120, 2) := by decide +kernel
theorem dX0_init_15 : decode cX0_init 15 = .ok (.newarray .int, 2) := by decide +kernel
theorem dX0_init_17 : decode cX0_init 17 = .ok (.putfield 13, 3) := by decide +kernel
theorem dX0_init_20 : decode cX0_init 20 = .ok (.aload_n 0, 1) := by decide +kernel
theorem dX0_init_21 : decode cX0_init 21 = .ok (.bipush 120, 2) := by decide +kernel
theorem dX0_init_23 : decode cX0_init 23 = .ok (.newarray .long, 2) := by decide +kernel
theorem dX0_init_25 : decode cX0_init 25 = .ok (.putfield 16, 3) := by decide +kernel
theorem dX0_init_28 : decode cX0_init 28 = .ok (.aload_n 0, 1) := by decide +kernel
theorem dX0_init_29 : decode cX0_init 29 = .ok (.bipush 120, 2) := by decide +kernel
theorem dX0_init_31 : decode cX0_init 31 = .ok (.newarray .boolean, 2) := by decide +kernel
theorem dX0_init_33 : decode cX0_init 33 = .ok (.putfield 20, 3) := by decide +kernel
theorem dX0_init_36 : decode cX0_init 36 = .ok (.aload_n 0, 1) := by decide +kernel
theorem dX0_init_37 : decode cX0_init 37 = .ok (.bipush 20, 2) := by decide +kernel
theorem dX0_init_39 : decode cX0_init 39 = .ok (.newarray .long, 2) := by decide +kernel
theorem dX0_init_41 : decode cX0_init 41 = .ok (.putfield 24, 3) := by decide +kernel
theorem dX0_init_44 : decode cX0_init 44 = .ok (.aload_n 0, 1) := by decide +kernel
theorem dX0_init_45 : decode cX0_init 45 = .ok (.bipush 20, 2) := by decide +kernel
theorem dX0_init_47 : decode cX0_init 47 = .ok (.newarray .int, 2) := by decide +kernel
theorem dX0_init_49 : decode cX0_init 49 = .ok (.putfield 27, 3) := by decide +kernel
theorem dX0_init_52 : decode cX0_init 52 = .ok (.aload_n 0, 1) := by decide +kernel
theorem dX0_init_53 : decode cX0_init 53 = .ok (.bipush 21, 2) := by decide +kernel
theorem dX0_init_55 : decode cX0_init 55 = .ok (.newarray .int, 2) := by decide +kernel
theorem dX0_init_57 : decode cX0_init 57 = .ok (.putfield 30, 3) := by decide +kernel
theorem dX0_init_60 : decode cX0_init 60 = .ok (.return_, 1) := by decide +kernel
theorem dX0_add_0 : decode cX0_add 0 = .ok (.aload_n 0, 1) := by decide +kernel
theorem dX0_add_1 : decode cX0_add 1 = .ok (.getfield 33, 3) := by decide +kernel
theorem dX0_add_4 : decode cX0_add 4 = .ok (.bipush 120, 2) := by decide +kernel
theorem dX0_add_6 : decode cX0_add 6 = .ok (.if_icmp .ge 12, 3) := by decide +kernel
theorem dX0_add_9 : decode cX0_add 9 = .ok (.iload_n 1, 1) := by decide +kernel
theorem dX0_add_10 : decode cX0_add 10 = .ok (.iload_n 2, 1) := by decide +kernel
theorem dX0_add_11 : decode cX0_add 11 = .ok (.lload_n 3, 1) := by decide +kernel
theorem dX0_add_12 : decode cX0_add 12 = .ok (.invokestatic 37, 3) := by decide +kernel
theorem dX0_add_15 : decode cX0_add 15 = .ok (.ifCond .ne 5, 3) := by decide +kernel
theorem dX0_add_18 : decode cX0_add 18 = .ok (.iconst (-1), 1) := by decide +kernel
theorem dX0_add_19 : decode cX0_add 19 = .ok (.ireturn, 1) := by decide +kernel
theorem dX0_add_20 : decode cX0_add 20 = .ok (.aload_n 0, 1) := by decide +kernel
theorem dX0_add_21 : decode cX0_add 21 = .ok (.iload_n 1, 1) := by decide +kernel
theorem dX0_add_22 : decode cX0_add 22 = .ok (.iload_n 2, 1) := by decide +kernel
theorem dX0_add_23 : decode cX0_add 23 = .ok (.lload_n 3, 1) := by decide +kernel
theorem dX0_add_24 : decode cX0_add 24 = .ok (.invokevirtual 41, 3) := by decide +kernel
theorem dX0_add_27 : decode cX0_add 27 = .ok (.ifCond .eq 6, 3) := by decide +kernel
theorem dX0_add_30 : decode cX0_add 30 = .ok (.bipush (-2), 2) := by decide +kernel
theorem dX0_add_32 : decode cX0_add 32 = .ok (.ireturn, 1) := by decide +kernel
theorem dX0_add_33 : decode cX0_add 33 = .ok (.aload_n 0, 1) := by decide +kernel
theorem dX0_add_34 : decode cX0_add 34 = .ok (.getfield 33, 3) := by decide +kernel
theorem dX0_add_37 : decode cX0_add 37 = .ok (.istore 5, 2) := by decide +kernel
theorem dX0_add_39 : decode cX0_add 39 = .ok (.aload_n 0, 1) := by decide +kernel
theorem dX0_add_40 : decode cX0_add 40 = .ok (.getfield 9, 3) := by decide +kernel
theorem dX0_add_43 : decode cX0_add 43 = .ok (.iload 5, 2) := by decide +kernel
theorem dX0_add_45 : decode cX0_add 45 = .ok (.iload_n 1, 1) := by decide +kernel
theorem dX0_add_46 : decode cX0_add 46 = .ok (.iastore, 1) := by decide +kernel
theorem dX0_add_47 : decode cX0_add 47 = .ok (.aload_n 0, 1) := by decide +kernel
theorem dX0_add_48 : decode cX0_add 48 = .ok (.getfield 13, 3) := by decide +kernel
theorem dX0_add_51 : decode cX0_add 51 = .ok (.iload 5, 2) := by decide +kernel
theorem dX0_add_53 : decode cX0_add 53 = .ok (.iload_n 2, 1) := by decide +kernel
theorem dX0_add_54 : decode cX0_add 54 = .ok (.iastore, 1) := by decide +kernel
theorem dX0_add_55 : decode cX0_add 55 = .ok (.aload_n 0, 1) := by decide +kernel
theorem dX0_add_56 : decode cX0_add 56 = .ok (.getfield 16, 3) := by decide +kernel
theorem dX0_add_59 : decode cX0_add 59 = .ok (.iload 5, 2) := by decide +kernel
theorem dX0_add_61 : decode cX0_add 61 = .ok (.lload_n 3, 1) := by decide +kernel
theorem dX0_add_62 : decode cX0_add 62 = .ok (.lastore, 1) := by decide +kernel
theorem dX0_add_63 : decode cX0_add 63 = .ok (.aload_n 0, 1) := by decide +kernel
theorem dX0_add_64 : decode cX0_add 64 = .ok (.getfield 20, 3) := by decide +kernel
theorem dX0_add_67 : decode cX0_add 67 = .ok (.iload 5, 2) := by decide +kernel
theorem dX0_add_69 : decode cX0_add 69 = .ok (.iconst 1, 1) := by decide +kernel
theorem dX0_add_70 : decode cX0_add 70 = .ok (.bastore, 1) := by decide +kernel
theorem dX0_add_71 : decode cX0_add 71 = .ok (.aload_n 0, 1) := by decide +kernel
theorem dX0_add_72 : decode cX0_add 72 = .ok (.dup, 1) := by decide +kernel
theorem dX0_add_73 : decode cX0_add 73 = .ok (.getfield 33, 3) := by decide +kernel
theorem dX0_add_76 : decode cX0_add 76 = .ok (.iconst 1, 1) := by decide +kernel
theorem dX0_add_77 : decode cX0_add 77 = .ok (.iadd, 1) := by decide +kernel
theorem dX0_add_78 : decode cX0_add 78 = .ok (.putfield 33, 3) := by decide +kernel
theorem dX0_add_81 : decode cX0_add 81 = .ok (.aload_n 0, 1) := by decide +kernel
theorem dX0_add_82 : decode cX0_add 82 = .ok (.dup, 1) := by decide +kernel
theorem dX0_add_83 : decode cX0_add 83 = .ok (.getfield 44, 3) := by decide +kernel
theorem dX0_add_86 : decode cX0_add 86 = .ok (.iconst 1, 1) := by decide +kernel
theorem dX0_add_87 : decode cX0_add 87 = .ok (.iadd, 1) := by decide +kernel
theorem dX0_add_88 : decode cX0_add 88 = .ok (.putfield 44, 3) := by decide +kernel
theorem dX0_add_91 : decode cX0_add 91 = .ok (.iload 5, 2) := by decide +kernel
theorem dX0_add_93 : decode cX0_add 93 = .ok (.ireturn, 1) := by decide +kernel
theorem dX0_off_0 : decode cX0_off 0 = .ok (.aload_n 0, 1) := by decide +kernel
theorem dX0_off_1 : decode cX0_off 1 = .ok (.iload_n 1, 1) := by decide +kernel
theorem dX0_off_2 : decode cX0_off 2 = .ok (.invokevirtual 47, 3) := by decide +kernel
theorem dX0_off_5 : decode cX0_off 5 = .ok (.ifCond .eq 12, 3) := by decide +kernel
theorem dX0_off_8 : decode cX0_off 8 = .ok (.aload_n 0, 1) := by decide +kernel
theorem dX0_off_9 : decode cX0_off 9 = .ok (.getfield 20, 3) := by decide +kernel
theorem dX0_off_12 : decode cX0_off 12 = .ok (.iload_n 1, 1) := by decide +kernel
theorem dX0_off_13 : decode cX0_off 13 = .ok (.baload, 1) := by decide +kernel
theorem dX0_off_14 : decode cX0_off 14 = .ok (.ifCond .ne 5, 3) := by decide +kernel
theorem dX0_off_17 : decode cX0_off 17 = .ok (.iconst 0, 1) := by decide +kernel
theorem dX0_off_18 : decode cX0_off 18 = .ok (.ireturn, 1) := by decide +kernel
theorem dX0_off_19 : decode cX0_off 19 = .ok (.aload_n 0, 1) := by decide +kernel
theorem dX0_off_20 : decode cX0_off 20 = .ok (.getfield 20, 3) := by decide +kernel
theorem dX0_off_23 : decode cX0_off 23 = .ok (.iload_n 1, 1) := by decide +kernel
theorem dX0_off_24 : decode cX0_off 24 = .ok (.iconst 0, 1) := by decide +kernel
theorem dX0_off_25 : decode cX0_off 25 = .ok (.bastore, 1) := by decide +kernel
theorem dX0_off_26 : decode cX0_off 26 = .ok (.aload_n 0, 1) := by decide +kernel
theorem dX0_off_27 : decode cX0_off 27 = .ok (.dup, 1) := by decide +kernel
theorem dX0_off_28 : decode cX0_off 28 = .ok (.getfield 44, 3) := by decide +kernel
theorem dX0_off_31 : decode cX0_off 31 = .ok (.iconst 1, 1) := by decide +kernel
theorem dX0_off_32 : decode cX0_off 32 = .ok (.isub, 1) := by decide +kernel
theorem dX0_off_33 : decode cX0_off 33 = .ok (.putfield 44, 3) := by decide +kernel
theorem dX0_off_36 : decode cX0_off 36 = .ok (.iconst 1, 1) := by decide +kernel
theorem dX0_off_37 : decode cX0_off 37 = .ok (.ireturn, 1) := by decide +kernel
theorem dX0_on_0 : decode cX0_on 0 = .ok (.aload_n 0, 1) := by decide +kernel
theorem dX0_on_1 : decode cX0_on 1 = .ok (.iload_n 1, 1) := by decide +kernel
theorem dX0_on_2 : decode cX0_on 2 = .ok (.invokevirtual 47, 3) := by decide +kernel
theorem dX0_on_5 : decode cX0_on 5 = .ok (.ifCond .eq 12, 3) := by decide +kernel
theorem dX0_on_8 : decode cX0_on 8 = .ok (.aload_n 0, 1) := by decide +kernel
theorem dX0_on_9 : decode cX0_on 9 = .ok (.getfield 20, 3) := by decide +kernel
theorem dX0_on_12 : decode cX0_on 12 = .ok (.iload_n 1, 1) := by decide +kernel
theorem dX0_on_13 : decode cX0_on 13 = .ok (.baload, 1) := by decide +kernel
theorem dX0_on_14 : decode cX0_on 14 = .ok (.ifCond .eq 5, 3) := by decide +kernel
theorem dX0_on_17 : decode cX0_on 17 = .ok (.iconst (-1), 1) := by decide +kernel
theorem dX0_on_18 : decode cX0_on 18 = .ok (.ireturn, 1) := by decide +kernel
theorem dX0_on_19 : decode cX0_on 19 = .ok (.aload_n 0, 1) := by decide +kernel
theorem dX0_on_20 : decode cX0_on 20 = .ok (.aload_n 0, 1) := by decide +kernel
theorem dX0_on_21 : decode cX0_on 21 = .ok (.getfield 9, 3) := by decide +kernel
theorem dX0_on_24 : decode cX0_on 24 = .ok (.iload_n 1, 1) := by decide +kernel
theorem dX0_on_25 : decode cX0_on 25 = .ok (.iaload, 1) := by decide +kernel
theorem dX0_on_26 : decode cX0_on 26 = .ok (.aload_n 0, 1) := by decide +kernel
theorem dX0_on_27 : decode cX0_on 27 = .ok (.getfield 13, 3) := by decide +kernel
theorem dX0_on_30 : decode cX0_on 30 = .ok (.iload_n 1, 1) := by decide +kernel
theorem dX0_on_31 : decode cX0_on 31 = .ok (.iaload, 1) := by decide +kernel
theorem dX0_on_32 : decode cX0_on 32 = .ok (.aload_n 0, 1) := by decide +kernel
theorem dX0_on_33 : decode cX0_on 33 = .ok (.getfield 16, 3) := by decide +kernel
theorem dX0_on_36 : decode cX0_on 36 = .ok (.iload_n 1, 1) := by decide +kernel
theorem dX0_on_37 : decode cX0_on 37 = .ok (.laload, 1) := by decide +kernel
theorem dX0_on_38 : decode cX0_on 38 = .ok (.invokevirtual 41, 3) := by decide +kernel
theorem dX0_on_41 : decode cX0_on 41 = .ok (.ifCond .eq 6, 3) := by decide +kernel
theorem dX0_on_44 : decode cX0_on 44 = .ok (.bipush (-2), 2) := by decide +kernel
theorem dX0_on_46 : decode cX0_on 46 = .ok (.ireturn, 1) := by decide +kernel
theorem dX0_on_47 : decode cX0_on 47 = .ok (.aload_n 0, 1) := by decide +kernel
theorem dX0_on_48 : decode cX0_on 48 = .ok (.getfield 20, 3) := by decide +kernel
theorem dX0_on_51 : decode cX0_on 51 = .ok (.iload_n 1, 1) := by decide +kernel
theorem dX0_on_52 : decode cX0_on 52 = .ok (.iconst 1, 1) := by decide +kernel
theorem dX0_on_53 : decode cX0_on 53 = .ok (.bastore, 1) := by decide +kernel
theorem dX0_on_54 : decode cX0_on 54 = .ok (.aload_n 0, 1) := by decide +kernel
theorem dX0_on_55 : decode cX0_on 55 = .ok (.dup, 1) := by decide +kernel
theorem dX0_on_56 : decode cX0_on 56 = .ok (.getfield 44, 3) := by decide +kernel
theorem dX0_on_59 : decode cX0_on 59 = .ok (.iconst 1, 1) := by decide +kernel
theorem dX0_on_60 : decode cX0_on 60 = .ok (.iadd, 1) := by decide +kernel
theorem dX0_on_61 : decode cX0_on 61 = .ok (.putfield 44, 3) := by decide +kernel
theorem dX0_on_64 : decode cX0_on 64 = .ok (.iload_n 1, 1) := by decide +kernel
theorem dX0_on_65 : decode cX0_on 65 = .ok (.ireturn, 1) := by decide +kernel
theorem dX0_bound_0 : decode cX0_bound 0 = .ok (.iload_n 1, 1) := by decide +kernel
theorem dX0_bound_1 : decode cX0_bound 1 = .ok (.invokestatic 51, 3) := by decide +kernel
theorem dX0_bound_4 : decode cX0_bound 4 = .ok (.ifCond .eq 10, 3) := by decide +kernel
theorem dX0_bound_7 : decode cX0_bound 7 = .ok (.iload_n 2, 1) := by decide +kernel
theorem dX0_bound_8 : decode cX0_bound 8 = .ok (.invokestatic 51, 3) := by decide +kernel
theorem dX0_bound_11 : decode cX0_bound 11 = .ok (.ifCond .ne 11, 3) := by decide +kernel
theorem dX0_bound_14 : decode cX0_bound 14 = .ok (.new 54, 3) := by decide +kernel
theorem dX0_bound_17 : decode cX0_bound 17 = .ok (.dup, 1) := by decide +kernel
theorem dX0_bound_18 : decode cX0_bound 18 = .ok (.invokespecial 56, 3) := by decide +kernel
theorem dX0_bound_21 : decode cX0_bound 21 = .ok (.athrow, 1) := by decide +kernel
theorem dX0_bound_22 : decode cX0_bound 22 = .ok (.aload_n 0, 1) := by decide +kernel
theorem dX0_bound_23 : decode cX0_bound 23 = .ok (.iload_n 2, 1) := by decide +kernel
theorem dX0_bound_24 : decode cX0_bound 24 = .ok (.invokevirtual 57, 3) := by decide +kernel
theorem dX0_bound_27 : decode cX0_bound 27 = .ok (.aload_n 0, 1) := by decide +kernel
theorem dX0_bound_28 : decode cX0_bound 28 = .ok (.getfield 24, 3) := by decide +kernel
theorem dX0_bound_31 : decode cX0_bound 31 = .ok (.iload_n 1, 1) := by decide +kernel
theorem dX0_bound_32 : decode cX0_bound 32 = .ok (.laload, 1) := by decide +kernel
theorem dX0_bound_33 : decode cX0_bound 33 = .ok (.lreturn, 1) := by decide +kernel
theorem dX0_steps_0 : decode cX0_steps 0 = .ok (.aload_n 0, 1) := by decide +kernel
theorem dX0_steps_1 : decode cX0_steps 1 = .ok (.iload_n 1, 1) := by decide +kernel
theorem dX0_steps_2 : decode cX0_steps 2 = .ok (.iload_n 2, 1) := by decide +kernel
theorem dX0_steps_3 : decode cX0_steps 3 = .ok (.invokevirtual 61, 3) := by decide +kernel
theorem dX0_steps_6 : decode cX0_steps 6 = .ok (.ifCond .eq 12, 3) := by decide +kernel
theorem dX0_steps_9 : decode cX0_steps 9 = .ok (.aload_n 0, 1) := by decide +kernel
theorem dX0_steps_10 : decode cX0_steps 10 = .ok (.getfield 27, 3) := by decide +kernel
theorem dX0_steps_13 : decode cX0_steps 13 = .ok (.iload_n 1, 1) := by decide +kernel
theorem dX0_steps_14 : decode cX0_steps 14 = .ok (.iaload, 1) := by decide +kernel
theorem dX0_steps_15 : decode cX0_steps 15 = .ok (.goto 4, 3) := by decide +kernel
theorem dX0_steps_18 : decode cX0_steps 18 = .ok (.iconst (-1), 1) := by decide +kernel
theorem dX0_steps_19 : decode cX0_steps 19 = .ok (.ireturn, 1) := by decide +kernel
theorem dX0_path_0 : decode cX0_path 0 = .ok (.aload_n 0, 1) := by decide +kernel
theorem dX0_path_1 : decode cX0_path 1 = .ok (.iload_n 1, 1) := by decide +kernel
theorem dX0_path_2 : decode cX0_path 2 = .ok (.iload_n 2, 1) := by decide +kernel
theorem dX0_path_3 : decode cX0_path 3 = .ok (.invokevirtual 61, 3) := by decide +kernel
theorem dX0_path_6 : decode cX0_path 6 = .ok (.ifCond .ne 5, 3) := by decide +kernel
theorem dX0_path_9 : decode cX0_path 9 = .ok (.iconst (-1), 1) := by decide +kernel
theorem dX0_path_10 : decode cX0_path 10 = .ok (.ireturn, 1) := by decide +kernel
theorem dX0_path_11 : decode cX0_path 11 = .ok (.aload_n 0, 1) := by decide +kernel
theorem dX0_path_12 : decode cX0_path 12 = .ok (.iconst 0, 1) := by decide +kernel
theorem dX0_path_13 : decode cX0_path 13 = .ok (.putfield 65, 3) := by decide +kernel
theorem dX0_path_16 : decode cX0_path 16 = .ok (.aload_n 0, 1) := by decide +kernel
theorem dX0_path_17 : decode cX0_path 17 = .ok (.iload_n 1, 1) := by decide +kernel
theorem dX0_path_18 : decode cX0_path 18 = .ok (.invokevirtual 68, 3) := by decide +kernel
theorem dX0_path_21 : decode cX0_path 21 = .ok (.aload_n 0, 1) := by decide +kernel
theorem dX0_path_22 : decode cX0_path 22 = .ok (.aload_n 0, 1) := by decide +kernel
theorem dX0_path_23 : decode cX0_path 23 = .ok (.getfield 24, 3) := by decide +kernel
theorem dX0_path_26 : decode cX0_path 26 = .ok (.iload_n 1, 1) := by decide +kernel
theorem dX0_path_27 : decode cX0_path 27 = .ok (.laload, 1) := by decide +kernel
theorem dX0_path_28 : decode cX0_path 28 = .ok (.putfield 71, 3) := by decide +kernel
theorem dX0_path_31 : decode cX0_path 31 = .ok (.aload_n 0, 1) := by decide +kernel
theorem dX0_path_32 : decode cX0_path 32 = .ok (.getfield 65, 3) := by decide +kernel
theorem dX0_path_35 : decode cX0_path 35 = .ok (.ireturn, 1) := by decide +kernel
theorem dX0_row_0 : decode cX0_row 0 = .ok (.aload_n 0, 1) := by decide +kernel
theorem dX0_row_1 : decode cX0_row 1 = .ok (.getfield 65, 3) := by decide +kernel
theorem dX0_row_4 : decode cX0_row 4 = .ok (.ireturn, 1) := by decide +kernel
theorem dX0_rowAt_0 : decode cX0_rowAt 0 = .ok (.iload_n 1, 1) := by decide +kernel
theorem dX0_rowAt_1 : decode cX0_rowAt 1 = .ok (.ifCond .lt 20, 3) := by decide +kernel
theorem dX0_rowAt_4 : decode cX0_rowAt 4 = .ok (.iload_n 1, 1) := by decide +kernel
theorem dX0_rowAt_5 : decode cX0_rowAt 5 = .ok (.aload_n 0, 1) := by decide +kernel
theorem dX0_rowAt_6 : decode cX0_rowAt 6 = .ok (.getfield 65, 3) := by decide +kernel
theorem dX0_rowAt_9 : decode cX0_rowAt 9 = .ok (.if_icmp .ge 12, 3) := by decide +kernel
theorem dX0_rowAt_12 : decode cX0_rowAt 12 = .ok (.aload_n 0, 1) := by decide +kernel
theorem dX0_rowAt_13 : decode cX0_rowAt 13 = .ok (.getfield 30, 3) := by decide +kernel
theorem dX0_rowAt_16 : decode cX0_rowAt 16 = .ok (.iload_n 1, 1) := by decide +kernel
theorem dX0_rowAt_17 : decode cX0_rowAt 17 = .ok (.iaload, 1) := by decide +kernel
theorem dX0_rowAt_18 : decode cX0_rowAt 18 = .ok (.goto 4, 3) := by decide +kernel
theorem dX0_rowAt_21 : decode cX0_rowAt 21 = .ok (.iconst (-1), 1) := by decide +kernel
theorem dX0_rowAt_22 : decode cX0_rowAt 22 = .ok (.ireturn, 1) := by decide +kernel
theorem dX0_length_0 : decode cX0_length 0 = .ok (.aload_n 0, 1) := by decide +kernel
theorem dX0_length_1 : decode cX0_length 1 = .ok (.getfield 71, 3) := by decide +kernel
theorem dX0_length_4 : decode cX0_length 4 = .ok (.lreturn, 1) := by decide +kernel
theorem dX0_earliest_0 : decode cX0_earliest 0 = .ok (.iload_n 1, 1) := by decide +kernel
theorem dX0_earliest_1 : decode cX0_earliest 1 = .ok (.invokestatic 51, 3) := by decide +kernel
theorem dX0_earliest_4 : decode cX0_earliest 4 = .ok (.ifCond .ne 11, 3) := by decide +kernel
theorem dX0_earliest_7 : decode cX0_earliest 7 = .ok (.new 54, 3) := by decide +kernel
theorem dX0_earliest_10 : decode cX0_earliest 10 = .ok (.dup, 1) := by decide +kernel
theorem dX0_earliest_11 : decode cX0_earliest 11 = .ok (.invokespecial 56, 3) := by decide +kernel
theorem dX0_earliest_14 : decode cX0_earliest 14 = .ok (.athrow, 1) := by decide +kernel
theorem dX0_earliest_15 : decode cX0_earliest 15 = .ok (.aload_n 0, 1) := by decide +kernel
theorem dX0_earliest_16 : decode cX0_earliest 16 = .ok (.iconst 0, 1) := by decide +kernel
theorem dX0_earliest_17 : decode cX0_earliest 17 = .ok (.invokevirtual 57, 3) := by decide +kernel
theorem dX0_earliest_20 : decode cX0_earliest 20 = .ok (.aload_n 0, 1) := by decide +kernel
theorem dX0_earliest_21 : decode cX0_earliest 21 = .ok (.getfield 24, 3) := by decide +kernel
theorem dX0_earliest_24 : decode cX0_earliest 24 = .ok (.iload_n 1, 1) := by decide +kernel
theorem dX0_earliest_25 : decode cX0_earliest 25 = .ok (.laload, 1) := by decide +kernel
theorem dX0_earliest_26 : decode cX0_earliest 26 = .ok (.ldc2_w 75, 3) := by decide +kernel
theorem dX0_earliest_29 : decode cX0_earliest 29 = .ok (.lcmp, 1) := by decide +kernel
theorem dX0_earliest_30 : decode cX0_earliest 30 = .ok (.ifCond .ne 9, 3) := by decide +kernel
theorem dX0_earliest_33 : decode cX0_earliest 33 = .ok (.ldc2_w 77, 3) := by decide +kernel
theorem dX0_earliest_36 : decode cX0_earliest 36 = .ok (.goto 10, 3) := by decide +kernel
theorem dX0_earliest_39 : decode cX0_earliest 39 = .ok (.aload_n 0, 1) := by decide +kernel
theorem dX0_earliest_40 : decode cX0_earliest 40 = .ok (.getfield 24, 3) := by decide +kernel
theorem dX0_earliest_43 : decode cX0_earliest 43 = .ok (.iload_n 1, 1) := by decide +kernel
theorem dX0_earliest_44 : decode cX0_earliest 44 = .ok (.laload, 1) := by decide +kernel
theorem dX0_earliest_45 : decode cX0_earliest 45 = .ok (.lneg, 1) := by decide +kernel
theorem dX0_earliest_46 : decode cX0_earliest 46 = .ok (.lreturn, 1) := by decide +kernel
theorem dX0_slack_0 : decode cX0_slack 0 = .ok (.aload_n 0, 1) := by decide +kernel
theorem dX0_slack_1 : decode cX0_slack 1 = .ok (.iload_n 1, 1) := by decide +kernel
theorem dX0_slack_2 : decode cX0_slack 2 = .ok (.invokevirtual 47, 3) := by decide +kernel
theorem dX0_slack_5 : decode cX0_slack 5 = .ok (.ifCond .eq 12, 3) := by decide +kernel
theorem dX0_slack_8 : decode cX0_slack 8 = .ok (.aload_n 0, 1) := by decide +kernel
theorem dX0_slack_9 : decode cX0_slack 9 = .ok (.getfield 20, 3) := by decide +kernel
theorem dX0_slack_12 : decode cX0_slack 12 = .ok (.iload_n 1, 1) := by decide +kernel
theorem dX0_slack_13 : decode cX0_slack 13 = .ok (.baload, 1) := by decide +kernel
theorem dX0_slack_14 : decode cX0_slack 14 = .ok (.ifCond .ne 7, 3) := by decide +kernel
theorem dX0_slack_17 : decode cX0_slack 17 = .ok (.ldc2_w 79, 3) := by decide +kernel
theorem dX0_slack_20 : decode cX0_slack 20 = .ok (.lreturn, 1) := by decide +kernel
theorem dX0_slack_21 : decode cX0_slack 21 = .ok (.aload_n 0, 1) := by decide +kernel
theorem dX0_slack_22 : decode cX0_slack 22 = .ok (.aload_n 0, 1) := by decide +kernel
theorem dX0_slack_23 : decode cX0_slack 23 = .ok (.getfield 13, 3) := by decide +kernel
theorem dX0_slack_26 : decode cX0_slack 26 = .ok (.iload_n 1, 1) := by decide +kernel
theorem dX0_slack_27 : decode cX0_slack 27 = .ok (.iaload, 1) := by decide +kernel
theorem dX0_slack_28 : decode cX0_slack 28 = .ok (.invokevirtual 57, 3) := by decide +kernel
theorem dX0_slack_31 : decode cX0_slack 31 = .ok (.aload_n 0, 1) := by decide +kernel
theorem dX0_slack_32 : decode cX0_slack 32 = .ok (.getfield 16, 3) := by decide +kernel
theorem dX0_slack_35 : decode cX0_slack 35 = .ok (.iload_n 1, 1) := by decide +kernel
theorem dX0_slack_36 : decode cX0_slack 36 = .ok (.laload, 1) := by decide +kernel
theorem dX0_slack_37 : decode cX0_slack 37 = .ok (.aload_n 0, 1) := by decide +kernel
theorem dX0_slack_38 : decode cX0_slack 38 = .ok (.getfield 24, 3) := by decide +kernel
theorem dX0_slack_41 : decode cX0_slack 41 = .ok (.aload_n 0, 1) := by decide +kernel
theorem dX0_slack_42 : decode cX0_slack 42 = .ok (.getfield 9, 3) := by decide +kernel
theorem dX0_slack_45 : decode cX0_slack 45 = .ok (.iload_n 1, 1) := by decide +kernel
theorem dX0_slack_46 : decode cX0_slack 46 = .ok (.iaload, 1) := by decide +kernel
theorem dX0_slack_47 : decode cX0_slack 47 = .ok (.laload, 1) := by decide +kernel
theorem dX0_slack_48 : decode cX0_slack 48 = .ok (.lsub, 1) := by decide +kernel
theorem dX0_slack_49 : decode cX0_slack 49 = .ok (.lreturn, 1) := by decide +kernel
theorem dX0_alive_0 : decode cX0_alive 0 = .ok (.aload_n 0, 1) := by decide +kernel
theorem dX0_alive_1 : decode cX0_alive 1 = .ok (.getfield 44, 3) := by decide +kernel
theorem dX0_alive_4 : decode cX0_alive 4 = .ok (.ireturn, 1) := by decide +kernel
theorem dX0_isPoint_0 : decode cX0_isPoint 0 = .ok (.iload_n 0, 1) := by decide +kernel
theorem dX0_isPoint_1 : decode cX0_isPoint 1 = .ok (.ifCond .lt 13, 3) := by decide +kernel
theorem dX0_isPoint_4 : decode cX0_isPoint 4 = .ok (.iload_n 0, 1) := by decide +kernel
theorem dX0_isPoint_5 : decode cX0_isPoint 5 = .ok (.bipush 20, 2) := by decide +kernel
theorem dX0_isPoint_7 : decode cX0_isPoint 7 = .ok (.if_icmp .ge 7, 3) := by decide +kernel
theorem dX0_isPoint_10 : decode cX0_isPoint 10 = .ok (.iconst 1, 1) := by decide +kernel
theorem dX0_isPoint_11 : decode cX0_isPoint 11 = .ok (.goto 4, 3) := by decide +kernel
theorem dX0_isPoint_14 : decode cX0_isPoint 14 = .ok (.iconst 0, 1) := by decide +kernel
theorem dX0_isPoint_15 : decode cX0_isPoint 15 = .ok (.ireturn, 1) := by decide +kernel
theorem dX0_isConstraint_0 : decode cX0_isConstraint 0 = .ok (.iload_n 0, 1) := by decide +kernel
theorem dX0_isConstraint_1 : decode cX0_isConstraint 1 = .ok (.invokestatic 51, 3) := by decide +kernel
theorem dX0_isConstraint_4 : decode cX0_isConstraint 4 = .ok (.ifCond .eq 35, 3) := by decide +kernel
theorem dX0_isConstraint_7 : decode cX0_isConstraint 7 = .ok (.iload_n 1, 1) := by decide +kernel
theorem dX0_isConstraint_8 : decode cX0_isConstraint 8 = .ok (.invokestatic 51, 3) := by decide +kernel
theorem dX0_isConstraint_11 : decode cX0_isConstraint 11 = .ok (.ifCond .eq 28, 3) := by decide +kernel
theorem dX0_isConstraint_14 : decode cX0_isConstraint 14 = .ok (.iload_n 0, 1) := by decide +kernel
theorem dX0_isConstraint_15 : decode cX0_isConstraint 15 = .ok (.iload_n 1, 1) := by decide +kernel
theorem dX0_isConstraint_16 : decode cX0_isConstraint 16 = .ok (.if_icmp .eq 23, 3) := by decide +kernel
theorem dX0_isConstraint_19 : decode cX0_isConstraint 19 = .ok (.lload_n 2, 1) := by decide +kernel
theorem dX0_isConstraint_20 : decode cX0_isConstraint 20 = .ok (.ldc2_w 81, 3) := by decide +kernel
theorem dX0_isConstraint_23 : decode cX0_isConstraint 23 = .ok (.lcmp, 1) := by decide +kernel
theorem dX0_isConstraint_24 : decode cX0_isConstraint 24 = .ok (.ifCond .lt 15, 3) := by decide +kernel
theorem dX0_isConstraint_27 : decode cX0_isConstraint 27 = .ok (.lload_n 2, 1) := by decide +kernel
theorem dX0_isConstraint_28 : decode cX0_isConstraint 28 = .ok (.ldc2_w 83, 3) := by decide +kernel
theorem dX0_isConstraint_31 : decode cX0_isConstraint 31 = .ok (.lcmp, 1) := by decide +kernel
theorem dX0_isConstraint_32 : decode cX0_isConstraint 32 = .ok (.ifCond .gt 7, 3) := by decide +kernel
theorem dX0_isConstraint_35 : decode cX0_isConstraint 35 = .ok (.iconst 1, 1) := by decide +kernel
theorem dX0_isConstraint_36 : decode cX0_isConstraint 36 = .ok (.goto 4, 3) := by decide +kernel
theorem dX0_isConstraint_39 : decode cX0_isConstraint 39 = .ok (.iconst 0, 1) := by decide +kernel
theorem dX0_isConstraint_40 : decode cX0_isConstraint 40 = .ok (.ireturn, 1) := by decide +kernel
theorem dX0_isNumber_0 : decode cX0_isNumber 0 = .ok (.iload_n 1, 1) := by decide +kernel
theorem dX0_isNumber_1 : decode cX0_isNumber 1 = .ok (.ifCond .lt 15, 3) := by decide +kernel
theorem dX0_isNumber_4 : decode cX0_isNumber 4 = .ok (.iload_n 1, 1) := by decide +kernel
theorem dX0_isNumber_5 : decode cX0_isNumber 5 = .ok (.aload_n 0, 1) := by decide +kernel
theorem dX0_isNumber_6 : decode cX0_isNumber 6 = .ok (.getfield 33, 3) := by decide +kernel
theorem dX0_isNumber_9 : decode cX0_isNumber 9 = .ok (.if_icmp .ge 7, 3) := by decide +kernel
theorem dX0_isNumber_12 : decode cX0_isNumber 12 = .ok (.iconst 1, 1) := by decide +kernel
theorem dX0_isNumber_13 : decode cX0_isNumber 13 = .ok (.goto 4, 3) := by decide +kernel
theorem dX0_isNumber_16 : decode cX0_isNumber 16 = .ok (.iconst 0, 1) := by decide +kernel
theorem dX0_isNumber_17 : decode cX0_isNumber 17 = .ok (.ireturn, 1) := by decide +kernel
theorem dX0_refuse_0 : decode cX0_refuse 0 = .ok (.aload_n 0, 1) := by decide +kernel
theorem dX0_refuse_1 : decode cX0_refuse 1 = .ok (.iload_n 2, 1) := by decide +kernel
theorem dX0_refuse_2 : decode cX0_refuse 2 = .ok (.iload_n 1, 1) := by decide +kernel
theorem dX0_refuse_3 : decode cX0_refuse 3 = .ok (.invokevirtual 61, 3) := by decide +kernel
theorem dX0_refuse_6 : decode cX0_refuse 6 = .ok (.ifCond .eq 16, 3) := by decide +kernel
theorem dX0_refuse_9 : decode cX0_refuse 9 = .ok (.aload_n 0, 1) := by decide +kernel
theorem dX0_refuse_10 : decode cX0_refuse 10 = .ok (.getfield 24, 3) := by decide +kernel
theorem dX0_refuse_13 : decode cX0_refuse 13 = .ok (.iload_n 2, 1) := by decide +kernel
theorem dX0_refuse_14 : decode cX0_refuse 14 = .ok (.laload, 1) := by decide +kernel
theorem dX0_refuse_15 : decode cX0_refuse 15 = .ok (.lload_n 3, 1) := by decide +kernel
theorem dX0_refuse_16 : decode cX0_refuse 16 = .ok (.ladd, 1) := by decide +kernel
theorem dX0_refuse_17 : decode cX0_refuse 17 = .ok (.lconst 0, 1) := by decide +kernel
theorem dX0_refuse_18 : decode cX0_refuse 18 = .ok (.lcmp, 1) := by decide +kernel
theorem dX0_refuse_19 : decode cX0_refuse 19 = .ok (.ifCond .lt 5, 3) := by decide +kernel
theorem dX0_refuse_22 : decode cX0_refuse 22 = .ok (.iconst 0, 1) := by decide +kernel
theorem dX0_refuse_23 : decode cX0_refuse 23 = .ok (.ireturn, 1) := by decide +kernel
theorem dX0_refuse_24 : decode cX0_refuse 24 = .ok (.aload_n 0, 1) := by decide +kernel
theorem dX0_refuse_25 : decode cX0_refuse 25 = .ok (.iconst 0, 1) := by decide +kernel
theorem dX0_refuse_26 : decode cX0_refuse 26 = .ok (.putfield 65, 3) := by decide +kernel
theorem dX0_refuse_29 : decode cX0_refuse 29 = .ok (.aload_n 0, 1) := by decide +kernel
theorem dX0_refuse_30 : decode cX0_refuse 30 = .ok (.iload_n 1, 1) := by decide +kernel
theorem dX0_refuse_31 : decode cX0_refuse 31 = .ok (.invokevirtual 85, 3) := by decide +kernel
theorem dX0_refuse_34 : decode cX0_refuse 34 = .ok (.aload_n 0, 1) := by decide +kernel
theorem dX0_refuse_35 : decode cX0_refuse 35 = .ok (.iload_n 2, 1) := by decide +kernel
theorem dX0_refuse_36 : decode cX0_refuse 36 = .ok (.invokevirtual 68, 3) := by decide +kernel
theorem dX0_refuse_39 : decode cX0_refuse 39 = .ok (.aload_n 0, 1) := by decide +kernel
theorem dX0_refuse_40 : decode cX0_refuse 40 = .ok (.aload_n 0, 1) := by decide +kernel
theorem dX0_refuse_41 : decode cX0_refuse 41 = .ok (.getfield 24, 3) := by decide +kernel
theorem dX0_refuse_44 : decode cX0_refuse 44 = .ok (.iload_n 2, 1) := by decide +kernel
theorem dX0_refuse_45 : decode cX0_refuse 45 = .ok (.laload, 1) := by decide +kernel
theorem dX0_refuse_46 : decode cX0_refuse 46 = .ok (.lload_n 3, 1) := by decide +kernel
theorem dX0_refuse_47 : decode cX0_refuse 47 = .ok (.ladd, 1) := by decide +kernel
theorem dX0_refuse_48 : decode cX0_refuse 48 = .ok (.putfield 71, 3) := by decide +kernel
theorem dX0_refuse_51 : decode cX0_refuse 51 = .ok (.iconst 1, 1) := by decide +kernel
theorem dX0_refuse_52 : decode cX0_refuse 52 = .ok (.ireturn, 1) := by decide +kernel
theorem dX0_findPath_0 : decode cX0_findPath 0 = .ok (.iload_n 1, 1) := by decide +kernel
theorem dX0_findPath_1 : decode cX0_findPath 1 = .ok (.invokestatic 51, 3) := by decide +kernel
theorem dX0_findPath_4 : decode cX0_findPath 4 = .ok (.ifCond .eq 10, 3) := by decide +kernel
theorem dX0_findPath_7 : decode cX0_findPath 7 = .ok (.iload_n 2, 1) := by decide +kernel
theorem dX0_findPath_8 : decode cX0_findPath 8 = .ok (.invokestatic 51, 3) := by decide +kernel
theorem dX0_findPath_11 : decode cX0_findPath 11 = .ok (.ifCond .ne 5, 3) := by decide +kernel
theorem dX0_findPath_14 : decode cX0_findPath 14 = .ok (.iconst 0, 1) := by decide +kernel
theorem dX0_findPath_15 : decode cX0_findPath 15 = .ok (.ireturn, 1) := by decide +kernel
theorem dX0_findPath_16 : decode cX0_findPath 16 = .ok (.aload_n 0, 1) := by decide +kernel
theorem dX0_findPath_17 : decode cX0_findPath 17 = .ok (.iload_n 2, 1) := by decide +kernel
theorem dX0_findPath_18 : decode cX0_findPath 18 = .ok (.invokevirtual 57, 3) := by decide +kernel
theorem dX0_findPath_21 : decode cX0_findPath 21 = .ok (.aload_n 0, 1) := by decide +kernel
theorem dX0_findPath_22 : decode cX0_findPath 22 = .ok (.getfield 24, 3) := by decide +kernel
theorem dX0_findPath_25 : decode cX0_findPath 25 = .ok (.iload_n 1, 1) := by decide +kernel
theorem dX0_findPath_26 : decode cX0_findPath 26 = .ok (.laload, 1) := by decide +kernel
theorem dX0_findPath_27 : decode cX0_findPath 27 = .ok (.ldc2_w 75, 3) := by decide +kernel
theorem dX0_findPath_30 : decode cX0_findPath 30 = .ok (.lcmp, 1) := by decide +kernel
theorem dX0_findPath_31 : decode cX0_findPath 31 = .ok (.ifCond .eq 7, 3) := by decide +kernel
theorem dX0_findPath_34 : decode cX0_findPath 34 = .ok (.iconst 1, 1) := by decide +kernel
theorem dX0_findPath_35 : decode cX0_findPath 35 = .ok (.goto 4, 3) := by decide +kernel
theorem dX0_findPath_38 : decode cX0_findPath 38 = .ok (.iconst 0, 1) := by decide +kernel
theorem dX0_findPath_39 : decode cX0_findPath 39 = .ok (.ireturn, 1) := by decide +kernel
theorem dX0_measureTo_0 : decode cX0_measureTo 0 = .ok (.iconst 0, 1) := by decide +kernel
theorem dX0_measureTo_1 : decode cX0_measureTo 1 = .ok (.istore_n 2, 1) := by decide +kernel
theorem dX0_measureTo_2 : decode cX0_measureTo 2 = .ok (.iload_n 2, 1) := by decide +kernel
theorem dX0_measureTo_3 : decode cX0_measureTo 3 = .ok (.bipush 20, 2) := by decide +kernel
theorem dX0_measureTo_5 : decode cX0_measureTo 5 = .ok (.if_icmp .ge 25, 3) := by decide +kernel
theorem dX0_measureTo_8 : decode cX0_measureTo 8 = .ok (.aload_n 0, 1) := by decide +kernel
theorem dX0_measureTo_9 : decode cX0_measureTo 9 = .ok (.getfield 24, 3) := by decide +kernel
theorem dX0_measureTo_12 : decode cX0_measureTo 12 = .ok (.iload_n 2, 1) := by decide +kernel
theorem dX0_measureTo_13 : decode cX0_measureTo 13 = .ok (.ldc2_w 75, 3) := by decide +kernel
theorem dX0_measureTo_16 : decode cX0_measureTo 16 = .ok (.lastore, 1) := by decide +kernel
theorem dX0_measureTo_17 : decode cX0_measureTo 17 = .ok (.aload_n 0, 1) := by decide +kernel
theorem dX0_measureTo_18 : decode cX0_measureTo 18 = .ok (.getfield 27, 3) := by decide +kernel
theorem dX0_measureTo_21 : decode cX0_measureTo 21 = .ok (.iload_n 2, 1) := by decide +kernel
theorem dX0_measureTo_22 : decode cX0_measureTo 22 = .ok (.iconst (-1), 1) := by decide +kernel
theorem dX0_measureTo_23 : decode cX0_measureTo 23 = .ok (.iastore, 1) := by decide +kernel
theorem dX0_measureTo_24 : decode cX0_measureTo 24 = .ok (.iinc 2 1, 3) := by decide +kernel
theorem dX0_measureTo_27 : decode cX0_measureTo 27 = .ok (.goto (-25), 3) := by decide +kernel
theorem dX0_measureTo_30 : decode cX0_measureTo 30 = .ok (.aload_n 0, 1) := by decide +kernel
theorem dX0_measureTo_31 : decode cX0_measureTo 31 = .ok (.getfield 24, 3) := by decide +kernel
theorem dX0_measureTo_34 : decode cX0_measureTo 34 = .ok (.iload_n 1, 1) := by decide +kernel
theorem dX0_measureTo_35 : decode cX0_measureTo 35 = .ok (.lconst 0, 1) := by decide +kernel
theorem dX0_measureTo_36 : decode cX0_measureTo 36 = .ok (.lastore, 1) := by decide +kernel
theorem dX0_measureTo_37 : decode cX0_measureTo 37 = .ok (.aload_n 0, 1) := by decide +kernel
theorem dX0_measureTo_38 : decode cX0_measureTo 38 = .ok (.getfield 27, 3) := by decide +kernel
theorem dX0_measureTo_41 : decode cX0_measureTo 41 = .ok (.iload_n 1, 1) := by decide +kernel
theorem dX0_measureTo_42 : decode cX0_measureTo 42 = .ok (.iconst 0, 1) := by decide +kernel
theorem dX0_measureTo_43 : decode cX0_measureTo 43 = .ok (.iastore, 1) := by decide +kernel
theorem dX0_measureTo_44 : decode cX0_measureTo 44 = .ok (.iconst 1, 1) := by decide +kernel
theorem dX0_measureTo_45 : decode cX0_measureTo 45 = .ok (.istore_n 2, 1) := by decide +kernel
theorem dX0_measureTo_46 : decode cX0_measureTo 46 = .ok (.iconst 1, 1) := by decide +kernel
theorem dX0_measureTo_47 : decode cX0_measureTo 47 = .ok (.istore_n 3, 1) := by decide +kernel
theorem dX0_measureTo_48 : decode cX0_measureTo 48 = .ok (.iload_n 3, 1) := by decide +kernel
theorem dX0_measureTo_49 : decode cX0_measureTo 49 = .ok (.bipush 20, 2) := by decide +kernel
theorem dX0_measureTo_51 : decode cX0_measureTo 51 = .ok (.if_icmp .ge 18, 3) := by decide +kernel
theorem dX0_measureTo_54 : decode cX0_measureTo 54 = .ok (.iload_n 2, 1) := by decide +kernel
theorem dX0_measureTo_55 : decode cX0_measureTo 55 = .ok (.ifCond .eq 14, 3) := by decide +kernel
theorem dX0_measureTo_58 : decode cX0_measureTo 58 = .ok (.aload_n 0, 1) := by decide +kernel
theorem dX0_measureTo_59 : decode cX0_measureTo 59 = .ok (.invokevirtual 88, 3) := by decide +kernel
theorem dX0_measureTo_62 : decode cX0_measureTo 62 = .ok (.istore_n 2, 1) := by decide +kernel
theorem dX0_measureTo_63 : decode cX0_measureTo 63 = .ok (.iinc 3 1, 3) := by decide +kernel
theorem dX0_measureTo_66 : decode cX0_measureTo 66 = .ok (.goto (-18), 3) := by decide +kernel
theorem dX0_measureTo_69 : decode cX0_measureTo 69 = .ok (.return_, 1) := by decide +kernel
theorem dX0_improveAll_0 : decode cX0_improveAll 0 = .ok (.iconst 0, 1) := by decide +kernel
theorem dX0_improveAll_1 : decode cX0_improveAll 1 = .ok (.istore_n 1, 1) := by decide +kernel
theorem dX0_improveAll_2 : decode cX0_improveAll 2 = .ok (.iconst 0, 1) := by decide +kernel
theorem dX0_improveAll_3 : decode cX0_improveAll 3 = .ok (.istore_n 2, 1) := by decide +kernel
theorem dX0_improveAll_4 : decode cX0_improveAll 4 = .ok (.iload_n 2, 1) := by decide +kernel
theorem dX0_improveAll_5 : decode cX0_improveAll 5 = .ok (.aload_n 0, 1) := by decide +kernel
theorem dX0_improveAll_6 : decode cX0_improveAll 6 = .ok (.getfield 33, 3) := by decide +kernel
theorem dX0_improveAll_9 : decode cX0_improveAll 9 = .ok (.if_icmp .ge 28, 3) := by decide +kernel
theorem dX0_improveAll_12 : decode cX0_improveAll 12 = .ok (.aload_n 0, 1) := by decide +kernel
theorem dX0_improveAll_13 : decode cX0_improveAll 13 = .ok (.getfield 20, 3) := by decide +kernel
theorem dX0_improveAll_16 : decode cX0_improveAll 16 = .ok (.iload_n 2, 1) := by decide +kernel
theorem dX0_improveAll_17 : decode cX0_improveAll 17 = .ok (.baload, 1) := by decide +kernel
theorem dX0_improveAll_18 : decode cX0_improveAll 18 = .ok (.ifCond .eq 13, 3) := by decide +kernel
theorem dX0_improveAll_21 : decode cX0_improveAll 21 = .ok (.aload_n 0, 1) := by decide +kernel
theorem dX0_improveAll_22 : decode cX0_improveAll 22 = .ok (.iload_n 2, 1) := by decide +kernel
theorem dX0_improveAll_23 : decode cX0_improveAll 23 = .ok (.invokevirtual 92, 3) := by decide +kernel
theorem dX0_improveAll_26 : decode cX0_improveAll 26 = .ok (.ifCond .eq 5, 3) := by decide +kernel
theorem dX0_improveAll_29 : decode cX0_improveAll 29 = .ok (.iconst 1, 1) := by decide +kernel
theorem dX0_improveAll_30 : decode cX0_improveAll 30 = .ok (.istore_n 1, 1) := by decide +kernel
theorem dX0_improveAll_31 : decode cX0_improveAll 31 = .ok (.iinc 2 1, 3) := by decide +kernel
theorem dX0_improveAll_34 : decode cX0_improveAll 34 = .ok (.goto (-30), 3) := by decide +kernel
theorem dX0_improveAll_37 : decode cX0_improveAll 37 = .ok (.iload_n 1, 1) := by decide +kernel
theorem dX0_improveAll_38 : decode cX0_improveAll 38 = .ok (.ireturn, 1) := by decide +kernel
theorem dX0_improveBy_0 : decode cX0_improveBy 0 = .ok (.aload_n 0, 1) := by decide +kernel
theorem dX0_improveBy_1 : decode cX0_improveBy 1 = .ok (.getfield 9, 3) := by decide +kernel
theorem dX0_improveBy_4 : decode cX0_improveBy 4 = .ok (.iload_n 1, 1) := by decide +kernel
theorem dX0_improveBy_5 : decode cX0_improveBy 5 = .ok (.iaload, 1) := by decide +kernel
theorem dX0_improveBy_6 : decode cX0_improveBy 6 = .ok (.istore_n 2, 1) := by decide +kernel
theorem dX0_improveBy_7 : decode cX0_improveBy 7 = .ok (.aload_n 0, 1) := by decide +kernel
theorem dX0_improveBy_8 : decode cX0_improveBy 8 = .ok (.getfield 13, 3) := by decide +kernel
theorem dX0_improveBy_11 : decode cX0_improveBy 11 = .ok (.iload_n 1, 1) := by decide +kernel
theorem dX0_improveBy_12 : decode cX0_improveBy 12 = .ok (.iaload, 1) := by decide +kernel
theorem dX0_improveBy_13 : decode cX0_improveBy 13 = .ok (.istore_n 3, 1) := by decide +kernel
theorem dX0_improveBy_14 : decode cX0_improveBy 14 = .ok (.aload_n 0, 1) := by decide +kernel
theorem dX0_improveBy_15 : decode cX0_improveBy 15 = .ok (.getfield 24, 3) := by decide +kernel
theorem dX0_improveBy_18 : decode cX0_improveBy 18 = .ok (.iload_n 3, 1) := by decide +kernel
theorem dX0_improveBy_19 : decode cX0_improveBy 19 = .ok (.laload, 1) := by decide +kernel
theorem dX0_improveBy_20 : decode cX0_improveBy 20 = .ok (.ldc2_w 75, 3) := by decide +kernel
theorem dX0_improveBy_23 : decode cX0_improveBy 23 = .ok (.lcmp, 1) := by decide +kernel
theorem dX0_improveBy_24 : decode cX0_improveBy 24 = .ok (.ifCond .ne 5, 3) := by decide +kernel
theorem dX0_improveBy_27 : decode cX0_improveBy 27 = .ok (.iconst 0, 1) := by decide +kernel
theorem dX0_improveBy_28 : decode cX0_improveBy 28 = .ok (.ireturn, 1) := by decide +kernel
theorem dX0_improveBy_29 : decode cX0_improveBy 29 = .ok (.aload_n 0, 1) := by decide +kernel
theorem dX0_improveBy_30 : decode cX0_improveBy 30 = .ok (.getfield 16, 3) := by decide +kernel
theorem dX0_improveBy_33 : decode cX0_improveBy 33 = .ok (.iload_n 1, 1) := by decide +kernel
theorem dX0_improveBy_34 : decode cX0_improveBy 34 = .ok (.laload, 1) := by decide +kernel
theorem dX0_improveBy_35 : decode cX0_improveBy 35 = .ok (.aload_n 0, 1) := by decide +kernel
theorem dX0_improveBy_36 : decode cX0_improveBy 36 = .ok (.getfield 24, 3) := by decide +kernel
theorem dX0_improveBy_39 : decode cX0_improveBy 39 = .ok (.iload_n 3, 1) := by decide +kernel
theorem dX0_improveBy_40 : decode cX0_improveBy 40 = .ok (.laload, 1) := by decide +kernel
theorem dX0_improveBy_41 : decode cX0_improveBy 41 = .ok (.ladd, 1) := by decide +kernel
theorem dX0_improveBy_42 : decode cX0_improveBy 42 = .ok (.lstore 4, 2) := by decide +kernel
theorem dX0_improveBy_44 : decode cX0_improveBy 44 = .ok (.aload_n 0, 1) := by decide +kernel
theorem dX0_improveBy_45 : decode cX0_improveBy 45 = .ok (.getfield 27, 3) := by decide +kernel
theorem dX0_improveBy_48 : decode cX0_improveBy 48 = .ok (.iload_n 3, 1) := by decide +kernel
theorem dX0_improveBy_49 : decode cX0_improveBy 49 = .ok (.iaload, 1) := by decide +kernel
theorem dX0_improveBy_50 : decode cX0_improveBy 50 = .ok (.iconst 1, 1) := by decide +kernel
theorem dX0_improveBy_51 : decode cX0_improveBy 51 = .ok (.iadd, 1) := by decide +kernel
theorem dX0_improveBy_52 : decode cX0_improveBy 52 = .ok (.istore 6, 2) := by decide +kernel
theorem dX0_improveBy_54 : decode cX0_improveBy 54 = .ok (.lload 4, 2) := by decide +kernel
theorem dX0_improveBy_56 : decode cX0_improveBy 56 = .ok (.aload_n 0, 1) := by decide +kernel
theorem dX0_improveBy_57 : decode cX0_improveBy 57 = .ok (.getfield 24, 3) := by decide +kernel
theorem dX0_improveBy_60 : decode cX0_improveBy 60 = .ok (.iload_n 2, 1) := by decide +kernel
theorem dX0_improveBy_61 : decode cX0_improveBy 61 = .ok (.laload, 1) := by decide +kernel
theorem dX0_improveBy_62 : decode cX0_improveBy 62 = .ok (.lcmp, 1) := by decide +kernel
theorem dX0_improveBy_63 : decode cX0_improveBy 63 = .ok (.ifCond .lt 26, 3) := by decide +kernel
theorem dX0_improveBy_66 : decode cX0_improveBy 66 = .ok (.lload 4, 2) := by decide +kernel
theorem dX0_improveBy_68 : decode cX0_improveBy 68 = .ok (.aload_n 0, 1) := by decide +kernel
theorem dX0_improveBy_69 : decode cX0_improveBy 69 = .ok (.getfield 24, 3) := by decide +kernel
theorem dX0_improveBy_72 : decode cX0_improveBy 72 = .ok (.iload_n 2, 1) := by decide +kernel
theorem dX0_improveBy_73 : decode cX0_improveBy 73 = .ok (.laload, 1) := by decide +kernel
theorem dX0_improveBy_74 : decode cX0_improveBy 74 = .ok (.lcmp, 1) := by decide +kernel
theorem dX0_improveBy_75 : decode cX0_improveBy 75 = .ok (.ifCond .ne 18, 3) := by decide +kernel
theorem dX0_improveBy_78 : decode cX0_improveBy 78 = .ok (.iload 6, 2) := by decide +kernel
theorem dX0_improveBy_80 : decode cX0_improveBy 80 = .ok (.aload_n 0, 1) := by decide +kernel
theorem dX0_improveBy_81 : decode cX0_improveBy 81 = .ok (.getfield 27, 3) := by decide +kernel
theorem dX0_improveBy_84 : decode cX0_improveBy 84 = .ok (.iload_n 2, 1) := by decide +kernel
theorem dX0_improveBy_85 : decode cX0_improveBy 85 = .ok (.iaload, 1) := by decide +kernel
theorem dX0_improveBy_86 : decode cX0_improveBy 86 = .ok (.if_icmp .ge 7, 3) := by decide +kernel
theorem dX0_improveBy_89 : decode cX0_improveBy 89 = .ok (.iconst 1, 1) := by decide +kernel
theorem dX0_improveBy_90 : decode cX0_improveBy 90 = .ok (.goto 4, 3) := by decide +kernel
theorem dX0_improveBy_93 : decode cX0_improveBy 93 = .ok (.iconst 0, 1) := by decide +kernel
theorem dX0_improveBy_94 : decode cX0_improveBy 94 = .ok (.istore 7, 2) := by decide +kernel
theorem dX0_improveBy_96 : decode cX0_improveBy 96 = .ok (.iload 7, 2) := by decide +kernel
theorem dX0_improveBy_98 : decode cX0_improveBy 98 = .ok (.ifCond .eq 19, 3) := by decide +kernel
theorem dX0_improveBy_101 : decode cX0_improveBy 101 = .ok (.aload_n 0, 1) := by decide +kernel
theorem dX0_improveBy_102 : decode cX0_improveBy 102 = .ok (.getfield 24, 3) := by decide +kernel
theorem dX0_improveBy_105 : decode cX0_improveBy 105 = .ok (.iload_n 2, 1) := by decide +kernel
theorem dX0_improveBy_106 : decode cX0_improveBy 106 = .ok (.lload 4, 2) := by decide +kernel
theorem dX0_improveBy_108 : decode cX0_improveBy 108 = .ok (.lastore, 1) := by decide +kernel
theorem dX0_improveBy_109 : decode cX0_improveBy 109 = .ok (.aload_n 0, 1) := by decide +kernel
theorem dX0_improveBy_110 : decode cX0_improveBy 110 = .ok (.getfield 27, 3) := by decide +kernel
theorem dX0_improveBy_113 : decode cX0_improveBy 113 = .ok (.iload_n 2, 1) := by decide +kernel
theorem dX0_improveBy_114 : decode cX0_improveBy 114 = .ok (.iload 6, 2) := by decide +kernel
theorem dX0_improveBy_116 : decode cX0_improveBy 116 = .ok (.iastore, 1) := by decide +kernel
theorem dX0_improveBy_117 : decode cX0_improveBy 117 = .ok (.iload 7, 2) := by decide +kernel
theorem dX0_improveBy_119 : decode cX0_improveBy 119 = .ok (.ireturn, 1) := by decide +kernel
theorem dX0_appendBestFrom_0 : decode cX0_appendBestFrom 0 = .ok (.iload_n 1, 1) := by decide +kernel
theorem dX0_appendBestFrom_1 : decode cX0_appendBestFrom 1 = .ok (.istore_n 2, 1) := by decide +kernel
theorem dX0_appendBestFrom_2 : decode cX0_appendBestFrom 2 = .ok (.aload_n 0, 1) := by decide +kernel
theorem dX0_appendBestFrom_3 : decode cX0_appendBestFrom 3 = .ok (.iload_n 2, 1) := by decide +kernel
theorem dX0_appendBestFrom_4 : decode cX0_appendBestFrom 4 = .ok (.invokevirtual 85, 3) := by decide +kernel
theorem dX0_appendBestFrom_7 : decode cX0_appendBestFrom 7 = .ok (.aload_n 0, 1) := by decide +kernel
theorem dX0_appendBestFrom_8 : decode cX0_appendBestFrom 8 = .ok (.getfield 27, 3) := by decide +kernel
theorem dX0_appendBestFrom_11 : decode cX0_appendBestFrom 11 = .ok (.iload_n 1, 1) := by decide +kernel
theorem dX0_appendBestFrom_12 : decode cX0_appendBestFrom 12 = .ok (.iaload, 1) := by decide +kernel
theorem dX0_appendBestFrom_13 : decode cX0_appendBestFrom 13 = .ok (.istore_n 3, 1) := by decide +kernel
theorem dX0_appendBestFrom_14 : decode cX0_appendBestFrom 14 = .ok (.iload_n 3, 1) := by decide +kernel
theorem dX0_appendBestFrom_15 : decode cX0_appendBestFrom 15 = .ok (.ifCond .le 20, 3) := by decide +kernel
theorem dX0_appendBestFrom_18 : decode cX0_appendBestFrom 18 = .ok (.aload_n 0, 1) := by decide +kernel
theorem dX0_appendBestFrom_19 : decode cX0_appendBestFrom 19 = .ok (.iload_n 2, 1) := by decide +kernel
theorem dX0_appendBestFrom_20 : decode cX0_appendBestFrom 20 = .ok (.invokevirtual 95, 3) := by decide +kernel
theorem dX0_appendBestFrom_23 : decode cX0_appendBestFrom 23 = .ok (.istore_n 2, 1) := by decide +kernel
theorem dX0_appendBestFrom_24 : decode cX0_appendBestFrom 24 = .ok (.aload_n 0, 1) := by decide +kernel
theorem dX0_appendBestFrom_25 : decode cX0_appendBestFrom 25 = .ok (.iload_n 2, 1) := by decide +kernel
theorem dX0_appendBestFrom_26 : decode cX0_appendBestFrom 26 = .ok (.invokevirtual 85, 3) := by decide +kernel
theorem dX0_appendBestFrom_29 : decode cX0_appendBestFrom 29 = .ok (.iinc 3 (-1), 3) := by decide +kernel
theorem dX0_appendBestFrom_32 : decode cX0_appendBestFrom 32 = .ok (.goto (-18), 3) := by decide +kernel
theorem dX0_appendBestFrom_35 : decode cX0_appendBestFrom 35 = .ok (.return_, 1) := by decide +kernel
theorem dX0_append_0 : decode cX0_append 0 = .ok (.aload_n 0, 1) := by decide +kernel
theorem dX0_append_1 : decode cX0_append 1 = .ok (.getfield 65, 3) := by decide +kernel
theorem dX0_append_4 : decode cX0_append 4 = .ok (.aload_n 0, 1) := by decide +kernel
theorem dX0_append_5 : decode cX0_append 5 = .ok (.getfield 30, 3) := by decide +kernel
theorem dX0_append_8 : decode cX0_append 8 = .ok (.arraylength, 1) := by decide +kernel
theorem dX0_append_9 : decode cX0_append 9 = .ok (.if_icmp .ge 23, 3) := by decide +kernel
theorem dX0_append_12 : decode cX0_append 12 = .ok (.aload_n 0, 1) := by decide +kernel
theorem dX0_append_13 : decode cX0_append 13 = .ok (.getfield 30, 3) := by decide +kernel
theorem dX0_append_16 : decode cX0_append 16 = .ok (.aload_n 0, 1) := by decide +kernel
theorem dX0_append_17 : decode cX0_append 17 = .ok (.getfield 65, 3) := by decide +kernel
theorem dX0_append_20 : decode cX0_append 20 = .ok (.iload_n 1, 1) := by decide +kernel
theorem dX0_append_21 : decode cX0_append 21 = .ok (.iastore, 1) := by decide +kernel
theorem dX0_append_22 : decode cX0_append 22 = .ok (.aload_n 0, 1) := by decide +kernel
theorem dX0_append_23 : decode cX0_append 23 = .ok (.dup, 1) := by decide +kernel
theorem dX0_append_24 : decode cX0_append 24 = .ok (.getfield 65, 3) := by decide +kernel
theorem dX0_append_27 : decode cX0_append 27 = .ok (.iconst 1, 1) := by decide +kernel
theorem dX0_append_28 : decode cX0_append 28 = .ok (.iadd, 1) := by decide +kernel
theorem dX0_append_29 : decode cX0_append 29 = .ok (.putfield 65, 3) := by decide +kernel
theorem dX0_append_32 : decode cX0_append 32 = .ok (.return_, 1) := by decide +kernel
theorem dX0_nextOfBest_0 : decode cX0_nextOfBest 0 = .ok (.bipush 20, 2) := by decide +kernel
theorem dX0_nextOfBest_2 : decode cX0_nextOfBest 2 = .ok (.istore_n 2, 1) := by decide +kernel
theorem dX0_nextOfBest_3 : decode cX0_nextOfBest 3 = .ok (.iconst 0, 1) := by decide +kernel
theorem dX0_nextOfBest_4 : decode cX0_nextOfBest 4 = .ok (.istore_n 3, 1) := by decide +kernel
theorem dX0_nextOfBest_5 : decode cX0_nextOfBest 5 = .ok (.iload_n 3, 1) := by decide +kernel
theorem dX0_nextOfBest_6 : decode cX0_nextOfBest 6 = .ok (.aload_n 0, 1) := by decide +kernel
theorem dX0_nextOfBest_7 : decode cX0_nextOfBest 7 = .ok (.getfield 33, 3) := by decide +kernel
theorem dX0_nextOfBest_10 : decode cX0_nextOfBest 10 = .ok (.if_icmp .ge 53, 3) := by decide +kernel
theorem dX0_nextOfBest_13 : decode cX0_nextOfBest 13 = .ok (.aload_n 0, 1) := by decide +kernel
theorem dX0_nextOfBest_14 : decode cX0_nextOfBest 14 = .ok (.getfield 9, 3) := by decide +kernel
theorem dX0_nextOfBest_17 : decode cX0_nextOfBest 17 = .ok (.iload_n 3, 1) := by decide +kernel
theorem dX0_nextOfBest_18 : decode cX0_nextOfBest 18 = .ok (.iaload, 1) := by decide +kernel
theorem dX0_nextOfBest_19 : decode cX0_nextOfBest 19 = .ok (.iload_n 1, 1) := by decide +kernel
theorem dX0_nextOfBest_20 : decode cX0_nextOfBest 20 = .ok (.if_icmp .ne 37, 3) := by decide +kernel
theorem dX0_nextOfBest_23 : decode cX0_nextOfBest 23 = .ok (.aload_n 0, 1) := by decide +kernel
theorem dX0_nextOfBest_24 : decode cX0_nextOfBest 24 = .ok (.getfield 13, 3) := by decide +kernel
theorem dX0_nextOfBest_27 : decode cX0_nextOfBest 27 = .ok (.iload_n 3, 1) := by decide +kernel
theorem dX0_nextOfBest_28 : decode cX0_nextOfBest 28 = .ok (.iaload, 1) := by decide +kernel
theorem dX0_nextOfBest_29 : decode cX0_nextOfBest 29 = .ok (.iload_n 2, 1) := by decide +kernel
theorem dX0_nextOfBest_30 : decode cX0_nextOfBest 30 = .ok (.if_icmp .ge 27, 3) := by decide +kernel
theorem dX0_nextOfBest_33 : decode cX0_nextOfBest 33 = .ok (.aload_n 0, 1) := by decide +kernel
theorem dX0_nextOfBest_34 : decode cX0_nextOfBest 34 = .ok (.getfield 20, 3) := by decide +kernel
theorem dX0_nextOfBest_37 : decode cX0_nextOfBest 37 = .ok (.iload_n 3, 1) := by decide +kernel
theorem dX0_nextOfBest_38 : decode cX0_nextOfBest 38 = .ok (.baload, 1) := by decide +kernel
theorem dX0_nextOfBest_39 : decode cX0_nextOfBest 39 = .ok (.ifCond .eq 18, 3) := by decide +kernel
theorem dX0_nextOfBest_42 : decode cX0_nextOfBest 42 = .ok (.aload_n 0, 1) := by decide +kernel
theorem dX0_nextOfBest_43 : decode cX0_nextOfBest 43 = .ok (.iload_n 3, 1) := by decide +kernel
theorem dX0_nextOfBest_44 : decode cX0_nextOfBest 44 = .ok (.invokevirtual 99, 3) := by decide +kernel
theorem dX0_nextOfBest_47 : decode cX0_nextOfBest 47 = .ok (.ifCond .eq 10, 3) := by decide +kernel
theorem dX0_nextOfBest_50 : decode cX0_nextOfBest 50 = .ok (.aload_n 0, 1) := by decide +kernel
theorem dX0_nextOfBest_51 : decode cX0_nextOfBest 51 = .ok (.getfield 13, 3) := by decide +kernel
theorem dX0_nextOfBest_54 : decode cX0_nextOfBest 54 = .ok (.iload_n 3, 1) := by decide +kernel
theorem dX0_nextOfBest_55 : decode cX0_nextOfBest 55 = .ok (.iaload, 1) := by decide +kernel
theorem dX0_nextOfBest_56 : decode cX0_nextOfBest 56 = .ok (.istore_n 2, 1) := by decide +kernel
theorem dX0_nextOfBest_57 : decode cX0_nextOfBest 57 = .ok (.iinc 3 1, 3) := by decide +kernel
theorem dX0_nextOfBest_60 : decode cX0_nextOfBest 60 = .ok (.goto (-55), 3) := by decide +kernel
theorem dX0_nextOfBest_63 : decode cX0_nextOfBest 63 = .ok (.iload_n 2, 1) := by decide +kernel
theorem dX0_nextOfBest_64 : decode cX0_nextOfBest 64 = .ok (.ireturn, 1) := by decide +kernel
theorem dX0_beginsBest_0 : decode cX0_beginsBest 0 = .ok (.aload_n 0, 1) := by decide +kernel
theorem dX0_beginsBest_1 : decode cX0_beginsBest 1 = .ok (.getfield 9, 3) := by decide +kernel
theorem dX0_beginsBest_4 : decode cX0_beginsBest 4 = .ok (.iload_n 1, 1) := by decide +kernel
theorem dX0_beginsBest_5 : decode cX0_beginsBest 5 = .ok (.iaload, 1) := by decide +kernel
theorem dX0_beginsBest_6 : decode cX0_beginsBest 6 = .ok (.istore_n 2, 1) := by decide +kernel
theorem dX0_beginsBest_7 : decode cX0_beginsBest 7 = .ok (.aload_n 0, 1) := by decide +kernel
theorem dX0_beginsBest_8 : decode cX0_beginsBest 8 = .ok (.getfield 13, 3) := by decide +kernel
theorem dX0_beginsBest_11 : decode cX0_beginsBest 11 = .ok (.iload_n 1, 1) := by decide +kernel
theorem dX0_beginsBest_12 : decode cX0_beginsBest 12 = .ok (.iaload, 1) := by decide +kernel
theorem dX0_beginsBest_13 : decode cX0_beginsBest 13 = .ok (.istore_n 3, 1) := by decide +kernel
theorem dX0_beginsBest_14 : decode cX0_beginsBest 14 = .ok (.aload_n 0, 1) := by decide +kernel
theorem dX0_beginsBest_15 : decode cX0_beginsBest 15 = .ok (.getfield 24, 3) := by decide +kernel
theorem dX0_beginsBest_18 : decode cX0_beginsBest 18 = .ok (.iload_n 3, 1) := by decide +kernel
theorem dX0_beginsBest_19 : decode cX0_beginsBest 19 = .ok (.laload, 1) := by decide +kernel
theorem dX0_beginsBest_20 : decode cX0_beginsBest 20 = .ok (.ldc2_w 75, 3) := by decide +kernel
theorem dX0_beginsBest_23 : decode cX0_beginsBest 23 = .ok (.lcmp, 1) := by decide +kernel
theorem dX0_beginsBest_24 : decode cX0_beginsBest 24 = .ok (.ifCond .eq 47, 3) := by decide +kernel
theorem dX0_beginsBest_27 : decode cX0_beginsBest 27 = .ok (.aload_n 0, 1) := by decide +kernel
theorem dX0_beginsBest_28 : decode cX0_beginsBest 28 = .ok (.getfield 16, 3) := by decide +kernel
theorem dX0_beginsBest_31 : decode cX0_beginsBest 31 = .ok (.iload_n 1, 1) := by decide +kernel
theorem dX0_beginsBest_32 : decode cX0_beginsBest 32 = .ok (.laload, 1) := by decide +kernel
theorem dX0_beginsBest_33 : decode cX0_beginsBest 33 = .ok (.aload_n 0, 1) := by decide +kernel
theorem dX0_beginsBest_34 : decode cX0_beginsBest 34 = .ok (.getfield 24, 3) := by decide +kernel
theorem dX0_beginsBest_37 : decode cX0_beginsBest 37 = .ok (.iload_n 3, 1) := by decide +kernel
theorem dX0_beginsBest_38 : decode cX0_beginsBest 38 = .ok (.laload, 1) := by decide +kernel
theorem dX0_beginsBest_39 : decode cX0_beginsBest 39 = .ok (.ladd, 1) := by decide +kernel
theorem dX0_beginsBest_40 : decode cX0_beginsBest 40 = .ok (.aload_n 0, 1) := by decide +kernel
theorem dX0_beginsBest_41 : decode cX0_beginsBest 41 = .ok (.getfield 24, 3) := by decide +kernel
theorem dX0_beginsBest_44 : decode cX0_beginsBest 44 = .ok (.iload_n 2, 1) := by decide +kernel
theorem dX0_beginsBest_45 : decode cX0_beginsBest 45 = .ok (.laload, 1) := by decide +kernel
theorem dX0_beginsBest_46 : decode cX0_beginsBest 46 = .ok (.lcmp, 1) := by decide +kernel
theorem dX0_beginsBest_47 : decode cX0_beginsBest 47 = .ok (.ifCond .ne 24, 3) := by decide +kernel
theorem dX0_beginsBest_50 : decode cX0_beginsBest 50 = .ok (.aload_n 0, 1) := by decide +kernel
theorem dX0_beginsBest_51 : decode cX0_beginsBest 51 = .ok (.getfield 27, 3) := by decide +kernel
theorem dX0_beginsBest_54 : decode cX0_beginsBest 54 = .ok (.iload_n 3, 1) := by decide +kernel
theorem dX0_beginsBest_55 : decode cX0_beginsBest 55 = .ok (.iaload, 1) := by decide +kernel
theorem dX0_beginsBest_56 : decode cX0_beginsBest 56 = .ok (.iconst 1, 1) := by decide +kernel
theorem dX0_beginsBest_57 : decode cX0_beginsBest 57 = .ok (.iadd, 1) := by decide +kernel
theorem dX0_beginsBest_58 : decode cX0_beginsBest 58 = .ok (.aload_n 0, 1) := by decide +kernel
theorem dX0_beginsBest_59 : decode cX0_beginsBest 59 = .ok (.getfield 27, 3) := by decide +kernel
theorem dX0_beginsBest_62 : decode cX0_beginsBest 62 = .ok (.iload_n 2, 1) := by decide +kernel
theorem dX0_beginsBest_63 : decode cX0_beginsBest 63 = .ok (.iaload, 1) := by decide +kernel
theorem dX0_beginsBest_64 : decode cX0_beginsBest 64 = .ok (.if_icmp .ne 7, 3) := by decide +kernel
theorem dX0_beginsBest_67 : decode cX0_beginsBest 67 = .ok (.iconst 1, 1) := by decide +kernel
theorem dX0_beginsBest_68 : decode cX0_beginsBest 68 = .ok (.goto 4, 3) := by decide +kernel
theorem dX0_beginsBest_71 : decode cX0_beginsBest 71 = .ok (.iconst 0, 1) := by decide +kernel
theorem dX0_beginsBest_72 : decode cX0_beginsBest 72 = .ok (.ireturn, 1) := by decide +kernel
end
section
theorem dX1_init_0 : decode cX1_init 0 = .ok (.aload_n 0, 1) := by decide +kernel
theorem dX1_init_1 : decode cX1_init 1 = .ok (.invokespecial 1, 3) := by decide +kernel
theorem dX1_init_4 : decode cX1_init 4 = .ok (.aload_n 0, 1) := by decide +kernel
theorem dX1_init_5 : decode cX1_init 5 = .ok (.bipush 120, 2) := by decide +kernel
theorem dX1_init_7 : decode cX1_init 7 = .ok (.newarray .int, 2) := by decide +kernel
theorem dX1_init_9 : decode cX1_init 9 = .ok (.putfield 7, 3) := by decide +kernel
theorem dX1_init_12 : decode cX1_init 12 = .ok (.aload_n 0, 1) := by decide +kernel
theorem dX1_init_13 : decode cX1_init 13 = .ok (.bipush 120, 2) := by decide +kernel
theorem dX1_init_15 : decode cX1_init 15 = .ok (.newarray .int, 2) := by decide +kernel
theorem dX1_init_17 : decode cX1_init 17 = .ok (.putfield 13, 3) := by decide +kernel
theorem dX1_init_20 : decode cX1_init 20 = .ok (.aload_n 0, 1) := by decide +kernel
theorem dX1_init_21 : decode cX1_init 21 = .ok (.bipush 120, 2) := by decide +kernel
theorem dX1_init_23 : decode cX1_init 23 = .ok (.newarray .long, 2) := by decide +kernel
theorem dX1_init_25 : decode cX1_init 25 = .ok (.putfield 16, 3) := by decide +kernel
theorem dX1_init_28 : decode cX1_init 28 = .ok (.aload_n 0, 1) := by decide +kernel
theorem dX1_init_29 : decode cX1_init 29 = .ok (.bipush 120, 2) := by decide +kernel
theorem dX1_init_31 : decode cX1_init 31 = .ok (.newarray .boolean, 2) := by decide +kernel
theorem dX1_init_33 : decode cX1_init 33 = .ok (.putfield 20, 3) := by decide +kernel
theorem dX1_init_36 : decode cX1_init 36 = .ok (.aload_n 0, 1) := by decide +kernel
theorem dX1_init_37 : decode cX1_init 37 = .ok (.bipush 24, 2) := by decide +kernel
theorem dX1_init_39 : decode cX1_init 39 = .ok (.newarray .int, 2) := by decide +kernel
theorem dX1_init_41 : decode cX1_init 41 = .ok (.putfield 24, 3) := by decide +kernel
theorem dX1_init_44 : decode cX1_init 44 = .ok (.aload_n 0, 1) := by decide +kernel
theorem dX1_init_45 : decode cX1_init 45 = .ok (.sipush 420, 3) := by decide +kernel
theorem dX1_init_48 : decode cX1_init 48 = .ok (.newarray .long, 2) := by decide +kernel
theorem dX1_init_50 : decode cX1_init 50 = .ok (.putfield 27, 3) := by decide +kernel
theorem dX1_init_53 : decode cX1_init 53 = .ok (.return_, 1) := by decide +kernel
theorem dX1_thrown_0 : decode cX1_thrown 0 = .ok (.aload_n 0, 1) := by decide +kernel
theorem dX1_thrown_1 : decode cX1_thrown 1 = .ok (.getfield 30, 3) := by decide +kernel
theorem dX1_thrown_4 : decode cX1_thrown 4 = .ok (.ireturn, 1) := by decide +kernel
theorem dX1_isPoint_0 : decode cX1_isPoint 0 = .ok (.iload_n 0, 1) := by decide +kernel
theorem dX1_isPoint_1 : decode cX1_isPoint 1 = .ok (.ifCond .lt 13, 3) := by decide +kernel
theorem dX1_isPoint_4 : decode cX1_isPoint 4 = .ok (.iload_n 0, 1) := by decide +kernel
theorem dX1_isPoint_5 : decode cX1_isPoint 5 = .ok (.bipush 20, 2) := by decide +kernel
theorem dX1_isPoint_7 : decode cX1_isPoint 7 = .ok (.if_icmp .ge 7, 3) := by decide +kernel
theorem dX1_isPoint_10 : decode cX1_isPoint 10 = .ok (.iconst 1, 1) := by decide +kernel
theorem dX1_isPoint_11 : decode cX1_isPoint 11 = .ok (.goto 4, 3) := by decide +kernel
theorem dX1_isPoint_14 : decode cX1_isPoint 14 = .ok (.iconst 0, 1) := by decide +kernel
theorem dX1_isPoint_15 : decode cX1_isPoint 15 = .ok (.ireturn, 1) := by decide +kernel
theorem dX1_isThere_0 : decode cX1_isThere 0 = .ok (.iload_n 1, 1) := by decide +kernel
theorem dX1_isThere_1 : decode cX1_isThere 1 = .ok (.ifCond .lt 15, 3) := by decide +kernel
theorem dX1_isThere_4 : decode cX1_isThere 4 = .ok (.iload_n 1, 1) := by decide +kernel
theorem dX1_isThere_5 : decode cX1_isThere 5 = .ok (.aload_n 0, 1) := by decide +kernel
theorem dX1_isThere_6 : decode cX1_isThere 6 = .ok (.getfield 34, 3) := by decide +kernel
theorem dX1_isThere_9 : decode cX1_isThere 9 = .ok (.if_icmp .ge 7, 3) := by decide +kernel
theorem dX1_isThere_12 : decode cX1_isThere 12 = .ok (.iconst 1, 1) := by decide +kernel
theorem dX1_isThere_13 : decode cX1_isThere 13 = .ok (.goto 4, 3) := by decide +kernel
theorem dX1_isThere_16 : decode cX1_isThere 16 = .ok (.iconst 0, 1) := by decide +kernel
theorem dX1_isThere_17 : decode cX1_isThere 17 = .ok (.ireturn, 1) := by decide +kernel
theorem dX1_step_0 : decode cX1_step 0 = .ok (.ldc2_w 37, 3) := by decide +kernel
theorem dX1_step_3 : decode cX1_step 3 = .ok (.lstore_n 3, 1) := by decide +kernel
theorem dX1_step_4 : decode cX1_step 4 = .ok (.iconst 0, 1) := by decide +kernel
theorem dX1_step_5 : decode cX1_step 5 = .ok (.istore 5, 2) := by decide +kernel
theorem dX1_step_7 : decode cX1_step 7 = .ok (.iload 5, 2) := by decide +kernel
theorem dX1_step_9 : decode cX1_step 9 = .ok (.aload_n 0, 1) := by decide +kernel
theorem dX1_step_10 : decode cX1_step 10 = .ok (.getfield 34, 3) := by decide +kernel
theorem dX1_step_13 : decode cX1_step 13 = .ok (.if_icmp .ge 65, 3) := by decide +kernel
theorem dX1_step_16 : decode cX1_step 16 = .ok (.aload_n 0, 1) := by decide +kernel
theorem dX1_step_17 : decode cX1_step 17 = .ok (.getfield 20, 3) := by decide +kernel
theorem dX1_step_20 : decode cX1_step 20 = .ok (.iload 5, 2) := by decide +kernel
theorem dX1_step_22 : decode cX1_step 22 = .ok (.baload, 1) := by decide +kernel
theorem dX1_step_23 : decode cX1_step 23 = .ok (.ifCond .eq 47, 3) := by decide +kernel
theorem dX1_step_26 : decode cX1_step 26 = .ok (.aload_n 0, 1) := by decide +kernel
theorem dX1_step_27 : decode cX1_step 27 = .ok (.getfield 7, 3) := by decide +kernel
theorem dX1_step_30 : decode cX1_step 30 = .ok (.iload 5, 2) := by decide +kernel
theorem dX1_step_32 : decode cX1_step 32 = .ok (.iaload, 1) := by decide +kernel
theorem dX1_step_33 : decode cX1_step 33 = .ok (.iload_n 1, 1) := by decide +kernel
theorem dX1_step_34 : decode cX1_step 34 = .ok (.if_icmp .ne 36, 3) := by decide +kernel
theorem dX1_step_37 : decode cX1_step 37 = .ok (.aload_n 0, 1) := by decide +kernel
theorem dX1_step_38 : decode cX1_step 38 = .ok (.getfield 13, 3) := by decide +kernel
theorem dX1_step_41 : decode cX1_step 41 = .ok (.iload 5, 2) := by decide +kernel
theorem dX1_step_43 : decode cX1_step 43 = .ok (.iaload, 1) := by decide +kernel
theorem dX1_step_44 : decode cX1_step 44 = .ok (.iload_n 2, 1) := by decide +kernel
theorem dX1_step_45 : decode cX1_step 45 = .ok (.if_icmp .ne 25, 3) := by decide +kernel
theorem dX1_step_48 : decode cX1_step 48 = .ok (.aload_n 0, 1) := by decide +kernel
theorem dX1_step_49 : decode cX1_step 49 = .ok (.getfield 16, 3) := by decide +kernel
theorem dX1_step_52 : decode cX1_step 52 = .ok (.iload 5, 2) := by decide +kernel
theorem dX1_step_54 : decode cX1_step 54 = .ok (.laload, 1) := by decide +kernel
theorem dX1_step_55 : decode cX1_step 55 = .ok (.lload_n 3, 1) := by decide +kernel
theorem dX1_step_56 : decode cX1_step 56 = .ok (.lcmp, 1) := by decide +kernel
theorem dX1_step_57 : decode cX1_step 57 = .ok (.ifCond .ge 13, 3) := by decide +kernel
theorem dX1_step_60 : decode cX1_step 60 = .ok (.aload_n 0, 1) := by decide +kernel
theorem dX1_step_61 : decode cX1_step 61 = .ok (.getfield 16, 3) := by decide +kernel
theorem dX1_step_64 : decode cX1_step 64 = .ok (.iload 5, 2) := by decide +kernel
theorem dX1_step_66 : decode cX1_step 66 = .ok (.laload, 1) := by decide +kernel
theorem dX1_step_67 : decode cX1_step 67 = .ok (.goto 4, 3) := by decide +kernel
theorem dX1_step_70 : decode cX1_step 70 = .ok (.lload_n 3, 1) := by decide +kernel
theorem dX1_step_71 : decode cX1_step 71 = .ok (.lstore_n 3, 1) := by decide +kernel
theorem dX1_step_72 : decode cX1_step 72 = .ok (.iinc 5 1, 3) := by decide +kernel
theorem dX1_step_75 : decode cX1_step 75 = .ok (.goto (-68), 3) := by decide +kernel
theorem dX1_step_78 : decode cX1_step 78 = .ok (.lload_n 3, 1) := by decide +kernel
theorem dX1_step_79 : decode cX1_step 79 = .ok (.lreturn, 1) := by decide +kernel
theorem dX1_best_0 : decode cX1_best 0 = .ok (.iconst 0, 1) := by decide +kernel
theorem dX1_best_1 : decode cX1_best 1 = .ok (.istore_n 3, 1) := by decide +kernel
theorem dX1_best_2 : decode cX1_best 2 = .ok (.iload_n 3, 1) := by decide +kernel
theorem dX1_best_3 : decode cX1_best 3 = .ok (.bipush 20, 2) := by decide +kernel
theorem dX1_best_5 : decode cX1_best 5 = .ok (.if_icmp .ge 27, 3) := by decide +kernel
theorem dX1_best_8 : decode cX1_best 8 = .ok (.aload_n 0, 1) := by decide +kernel
theorem dX1_best_9 : decode cX1_best 9 = .ok (.getfield 27, 3) := by decide +kernel
theorem dX1_best_12 : decode cX1_best 12 = .ok (.iload_n 3, 1) := by decide +kernel
theorem dX1_best_13 : decode cX1_best 13 = .ok (.iload_n 3, 1) := by decide +kernel
theorem dX1_best_14 : decode cX1_best 14 = .ok (.iload_n 2, 1) := by decide +kernel
theorem dX1_best_15 : decode cX1_best 15 = .ok (.if_icmp .ne 7, 3) := by decide +kernel
theorem dX1_best_18 : decode cX1_best 18 = .ok (.lconst 0, 1) := by decide +kernel
theorem dX1_best_19 : decode cX1_best 19 = .ok (.goto 6, 3) := by decide +kernel
theorem dX1_best_22 : decode cX1_best 22 = .ok (.ldc2_w 37, 3) := by decide +kernel
theorem dX1_best_25 : decode cX1_best 25 = .ok (.lastore, 1) := by decide +kernel
theorem dX1_best_26 : decode cX1_best 26 = .ok (.iinc 3 1, 3) := by decide +kernel
theorem dX1_best_29 : decode cX1_best 29 = .ok (.goto (-27), 3) := by decide +kernel
theorem dX1_best_32 : decode cX1_best 32 = .ok (.iconst 1, 1) := by decide +kernel
theorem dX1_best_33 : decode cX1_best 33 = .ok (.istore_n 3, 1) := by decide +kernel
theorem dX1_best_34 : decode cX1_best 34 = .ok (.iload_n 3, 1) := by decide +kernel
theorem dX1_best_35 : decode cX1_best 35 = .ok (.bipush 20, 2) := by decide +kernel
theorem dX1_best_37 : decode cX1_best 37 = .ok (.if_icmp .gt 160, 3) := by decide +kernel
theorem dX1_best_40 : decode cX1_best 40 = .ok (.iconst 0, 1) := by decide +kernel
theorem dX1_best_41 : decode cX1_best 41 = .ok (.istore 4, 2) := by decide +kernel
theorem dX1_best_43 : decode cX1_best 43 = .ok (.iload 4, 2) := by decide +kernel
theorem dX1_best_45 : decode cX1_best 45 = .ok (.bipush 20, 2) := by decide +kernel
theorem dX1_best_47 : decode cX1_best 47 = .ok (.if_icmp .ge 24, 3) := by decide +kernel
theorem dX1_best_50 : decode cX1_best 50 = .ok (.aload_n 0, 1) := by decide +kernel
theorem dX1_best_51 : decode cX1_best 51 = .ok (.getfield 27, 3) := by decide +kernel
theorem dX1_best_54 : decode cX1_best 54 = .ok (.bipush 20, 2) := by decide +kernel
theorem dX1_best_56 : decode cX1_best 56 = .ok (.iload_n 3, 1) := by decide +kernel
theorem dX1_best_57 : decode cX1_best 57 = .ok (.imul, 1) := by decide +kernel
theorem dX1_best_58 : decode cX1_best 58 = .ok (.iload 4, 2) := by decide +kernel
theorem dX1_best_60 : decode cX1_best 60 = .ok (.iadd, 1) := by decide +kernel
theorem dX1_best_61 : decode cX1_best 61 = .ok (.ldc2_w 37, 3) := by decide +kernel
theorem dX1_best_64 : decode cX1_best 64 = .ok (.lastore, 1) := by decide +kernel
theorem dX1_best_65 : decode cX1_best 65 = .ok (.iinc 4 1, 3) := by decide +kernel
theorem dX1_best_68 : decode cX1_best 68 = .ok (.goto (-25), 3) := by decide +kernel
theorem dX1_best_71 : decode cX1_best 71 = .ok (.iconst 0, 1) := by decide +kernel
theorem dX1_best_72 : decode cX1_best 72 = .ok (.istore 4, 2) := by decide +kernel
theorem dX1_best_74 : decode cX1_best 74 = .ok (.iload 4, 2) := by decide +kernel
theorem dX1_best_76 : decode cX1_best 76 = .ok (.aload_n 0, 1) := by decide +kernel
theorem dX1_best_77 : decode cX1_best 77 = .ok (.getfield 34, 3) := by decide +kernel
theorem dX1_best_80 : decode cX1_best 80 = .ok (.if_icmp .ge 111, 3) := by decide +kernel
theorem dX1_best_83 : decode cX1_best 83 = .ok (.bipush 20, 2) := by decide +kernel
theorem dX1_best_85 : decode cX1_best 85 = .ok (.iload_n 3, 1) := by decide +kernel
theorem dX1_best_86 : decode cX1_best 86 = .ok (.iconst 1, 1) := by decide +kernel
theorem dX1_best_87 : decode cX1_best 87 = .ok (.isub, 1) := by decide +kernel
theorem dX1_best_88 : decode cX1_best 88 = .ok (.imul, 1) := by decide +kernel
theorem dX1_best_89 : decode cX1_best 89 = .ok (.aload_n 0, 1) := by decide +kernel
theorem dX1_best_90 : decode cX1_best 90 = .ok (.getfield 13, 3) := by decide +kernel
theorem dX1_best_93 : decode cX1_best 93 = .ok (.iload 4, 2) := by decide +kernel
theorem dX1_best_95 : decode cX1_best 95 = .ok (.iaload, 1) := by decide +kernel
theorem dX1_best_96 : decode cX1_best 96 = .ok (.iadd, 1) := by decide +kernel
theorem dX1_best_97 : decode cX1_best 97 = .ok (.istore 5, 2) := by decide +kernel
theorem dX1_best_99 : decode cX1_best 99 = .ok (.bipush 20, 2) := by decide +kernel
theorem dX1_best_101 : decode cX1_best 101 = .ok (.iload_n 3, 1) := by decide +kernel
theorem dX1_best_102 : decode cX1_best 102 = .ok (.imul, 1) := by decide +kernel
theorem dX1_best_103 : decode cX1_best 103 = .ok (.aload_n 0, 1) := by decide +kernel
theorem dX1_best_104 : decode cX1_best 104 = .ok (.getfield 7, 3) := by decide +kernel
theorem dX1_best_107 : decode cX1_best 107 = .ok (.iload 4, 2) := by decide +kernel
theorem dX1_best_109 : decode cX1_best 109 = .ok (.iaload, 1) := by decide +kernel
theorem dX1_best_110 : decode cX1_best 110 = .ok (.iadd, 1) := by decide +kernel
theorem dX1_best_111 : decode cX1_best 111 = .ok (.istore 6, 2) := by decide +kernel
theorem dX1_best_113 : decode cX1_best 113 = .ok (.aload_n 0, 1) := by decide +kernel
theorem dX1_best_114 : decode cX1_best 114 = .ok (.getfield 20, 3) := by decide +kernel
theorem dX1_best_117 : decode cX1_best 117 = .ok (.iload 4, 2) := by decide +kernel
theorem dX1_best_119 : decode cX1_best 119 = .ok (.baload, 1) := by decide +kernel
theorem dX1_best_120 : decode cX1_best 120 = .ok (.ifCond .eq 65, 3) := by decide +kernel
theorem dX1_best_123 : decode cX1_best 123 = .ok (.aload_n 0, 1) := by decide +kernel
theorem dX1_best_124 : decode cX1_best 124 = .ok (.getfield 27, 3) := by decide +kernel
theorem dX1_best_127 : decode cX1_best 127 = .ok (.iload 5, 2) := by decide +kernel
theorem dX1_best_129 : decode cX1_best 129 = .ok (.laload, 1) := by decide +kernel
theorem dX1_best_130 : decode cX1_best 130 = .ok (.ldc2_w 37, 3) := by decide +kernel
theorem dX1_best_133 : decode cX1_best 133 = .ok (.lcmp, 1) := by decide +kernel
theorem dX1_best_134 : decode cX1_best 134 = .ok (.ifCond .eq 51, 3) := by decide +kernel
theorem dX1_best_137 : decode cX1_best 137 = .ok (.aload_n 0, 1) := by decide +kernel
theorem dX1_best_138 : decode cX1_best 138 = .ok (.getfield 16, 3) := by decide +kernel
theorem dX1_best_141 : decode cX1_best 141 = .ok (.iload 4, 2) := by decide +kernel
theorem dX1_best_143 : decode cX1_best 143 = .ok (.laload, 1) := by decide +kernel
theorem dX1_best_144 : decode cX1_best 144 = .ok (.aload_n 0, 1) := by decide +kernel
theorem dX1_best_145 : decode cX1_best 145 = .ok (.getfield 27, 3) := by decide +kernel
theorem dX1_best_148 : decode cX1_best 148 = .ok (.iload 5, 2) := by decide +kernel
theorem dX1_best_150 : decode cX1_best 150 = .ok (.laload, 1) := by decide +kernel
theorem dX1_best_151 : decode cX1_best 151 = .ok (.ladd, 1) := by decide +kernel
theorem dX1_best_152 : decode cX1_best 152 = .ok (.aload_n 0, 1) := by decide +kernel
theorem dX1_best_153 : decode cX1_best 153 = .ok (.getfield 27, 3) := by decide +kernel
theorem dX1_best_156 : decode cX1_best 156 = .ok (.iload 6, 2) := by decide +kernel
theorem dX1_best_158 : decode cX1_best 158 = .ok (.laload, 1) := by decide +kernel
theorem dX1_best_159 : decode cX1_best 159 = .ok (.lcmp, 1) := by decide +kernel
theorem dX1_best_160 : decode cX1_best 160 = .ok (.ifCond .ge 25, 3) := by decide +kernel
theorem dX1_best_163 : decode cX1_best 163 = .ok (.aload_n 0, 1) := by decide +kernel
theorem dX1_best_164 : decode cX1_best 164 = .ok (.getfield 27, 3) := by decide +kernel
theorem dX1_best_167 : decode cX1_best 167 = .ok (.iload 6, 2) := by decide +kernel
theorem dX1_best_169 : decode cX1_best 169 = .ok (.aload_n 0, 1) := by decide +kernel
theorem dX1_best_170 : decode cX1_best 170 = .ok (.getfield 16, 3) := by decide +kernel
theorem dX1_best_173 : decode cX1_best 173 = .ok (.iload 4, 2) := by decide +kernel
theorem dX1_best_175 : decode cX1_best 175 = .ok (.laload, 1) := by decide +kernel
theorem dX1_best_176 : decode cX1_best 176 = .ok (.aload_n 0, 1) := by decide +kernel
theorem dX1_best_177 : decode cX1_best 177 = .ok (.getfield 27, 3) := by decide +kernel
theorem dX1_best_180 : decode cX1_best 180 = .ok (.iload 5, 2) := by decide +kernel
theorem dX1_best_182 : decode cX1_best 182 = .ok (.laload, 1) := by decide +kernel
theorem dX1_best_183 : decode cX1_best 183 = .ok (.ladd, 1) := by decide +kernel
theorem dX1_best_184 : decode cX1_best 184 = .ok (.lastore, 1) := by decide +kernel
theorem dX1_best_185 : decode cX1_best 185 = .ok (.iinc 4 1, 3) := by decide +kernel
theorem dX1_best_188 : decode cX1_best 188 = .ok (.goto (-114), 3) := by decide +kernel
theorem dX1_best_191 : decode cX1_best 191 = .ok (.iinc 3 1, 3) := by decide +kernel
theorem dX1_best_194 : decode cX1_best 194 = .ok (.goto (-160), 3) := by decide +kernel
theorem dX1_best_197 : decode cX1_best 197 = .ok (.aload_n 0, 1) := by decide +kernel
theorem dX1_best_198 : decode cX1_best 198 = .ok (.iconst (-1), 1) := by decide +kernel
theorem dX1_best_199 : decode cX1_best 199 = .ok (.putfield 39, 3) := by decide +kernel
theorem dX1_best_202 : decode cX1_best 202 = .ok (.aload_n 0, 1) := by decide +kernel
theorem dX1_best_203 : decode cX1_best 203 = .ok (.ldc2_w 37, 3) := by decide +kernel
theorem dX1_best_206 : decode cX1_best 206 = .ok (.putfield 42, 3) := by decide +kernel
theorem dX1_best_209 : decode cX1_best 209 = .ok (.iconst 0, 1) := by decide +kernel
theorem dX1_best_210 : decode cX1_best 210 = .ok (.istore_n 3, 1) := by decide +kernel
theorem dX1_best_211 : decode cX1_best 211 = .ok (.iload_n 3, 1) := by decide +kernel
theorem dX1_best_212 : decode cX1_best 212 = .ok (.bipush 20, 2) := by decide +kernel
theorem dX1_best_214 : decode cX1_best 214 = .ok (.if_icmp .gt 48, 3) := by decide +kernel
theorem dX1_best_217 : decode cX1_best 217 = .ok (.aload_n 0, 1) := by decide +kernel
theorem dX1_best_218 : decode cX1_best 218 = .ok (.getfield 27, 3) := by decide +kernel
theorem dX1_best_221 : decode cX1_best 221 = .ok (.bipush 20, 2) := by decide +kernel
theorem dX1_best_223 : decode cX1_best 223 = .ok (.iload_n 3, 1) := by decide +kernel
theorem dX1_best_224 : decode cX1_best 224 = .ok (.imul, 1) := by decide +kernel
theorem dX1_best_225 : decode cX1_best 225 = .ok (.iload_n 1, 1) := by decide +kernel
theorem dX1_best_226 : decode cX1_best 226 = .ok (.iadd, 1) := by decide +kernel
theorem dX1_best_227 : decode cX1_best 227 = .ok (.laload, 1) := by decide +kernel
theorem dX1_best_228 : decode cX1_best 228 = .ok (.aload_n 0, 1) := by decide +kernel
theorem dX1_best_229 : decode cX1_best 229 = .ok (.getfield 42, 3) := by decide +kernel
theorem dX1_best_232 : decode cX1_best 232 = .ok (.lcmp, 1) := by decide +kernel
theorem dX1_best_233 : decode cX1_best 233 = .ok (.ifCond .ge 23, 3) := by decide +kernel
theorem dX1_best_236 : decode cX1_best 236 = .ok (.aload_n 0, 1) := by decide +kernel
theorem dX1_best_237 : decode cX1_best 237 = .ok (.aload_n 0, 1) := by decide +kernel
theorem dX1_best_238 : decode cX1_best 238 = .ok (.getfield 27, 3) := by decide +kernel
theorem dX1_best_241 : decode cX1_best 241 = .ok (.bipush 20, 2) := by decide +kernel
theorem dX1_best_243 : decode cX1_best 243 = .ok (.iload_n 3, 1) := by decide +kernel
theorem dX1_best_244 : decode cX1_best 244 = .ok (.imul, 1) := by decide +kernel
theorem dX1_best_245 : decode cX1_best 245 = .ok (.iload_n 1, 1) := by decide +kernel
theorem dX1_best_246 : decode cX1_best 246 = .ok (.iadd, 1) := by decide +kernel
theorem dX1_best_247 : decode cX1_best 247 = .ok (.laload, 1) := by decide +kernel
theorem dX1_best_248 : decode cX1_best 248 = .ok (.putfield 42, 3) := by decide +kernel
theorem dX1_best_251 : decode cX1_best 251 = .ok (.aload_n 0, 1) := by decide +kernel
theorem dX1_best_252 : decode cX1_best 252 = .ok (.iload_n 3, 1) := by decide +kernel
theorem dX1_best_253 : decode cX1_best 253 = .ok (.putfield 39, 3) := by decide +kernel
theorem dX1_best_256 : decode cX1_best 256 = .ok (.iinc 3 1, 3) := by decide +kernel
theorem dX1_best_259 : decode cX1_best 259 = .ok (.goto (-48), 3) := by decide +kernel
theorem dX1_best_262 : decode cX1_best 262 = .ok (.aload_n 0, 1) := by decide +kernel
theorem dX1_best_263 : decode cX1_best 263 = .ok (.getfield 39, 3) := by decide +kernel
theorem dX1_best_266 : decode cX1_best 266 = .ok (.ifCond .lt 7, 3) := by decide +kernel
theorem dX1_best_269 : decode cX1_best 269 = .ok (.iconst 1, 1) := by decide +kernel
theorem dX1_best_270 : decode cX1_best 270 = .ok (.goto 4, 3) := by decide +kernel
theorem dX1_best_273 : decode cX1_best 273 = .ok (.iconst 0, 1) := by decide +kernel
theorem dX1_best_274 : decode cX1_best 274 = .ok (.ireturn, 1) := by decide +kernel
theorem dX1_walk_0 : decode cX1_walk 0 = .ok (.iload_n 1, 1) := by decide +kernel
theorem dX1_walk_1 : decode cX1_walk 1 = .ok (.istore_n 2, 1) := by decide +kernel
theorem dX1_walk_2 : decode cX1_walk 2 = .ok (.aload_n 0, 1) := by decide +kernel
theorem dX1_walk_3 : decode cX1_walk 3 = .ok (.getfield 39, 3) := by decide +kernel
theorem dX1_walk_6 : decode cX1_walk 6 = .ok (.istore_n 3, 1) := by decide +kernel
theorem dX1_walk_7 : decode cX1_walk 7 = .ok (.iload_n 3, 1) := by decide +kernel
theorem dX1_walk_8 : decode cX1_walk 8 = .ok (.ifCond .le 114, 3) := by decide +kernel
theorem dX1_walk_11 : decode cX1_walk 11 = .ok (.iconst 0, 1) := by decide +kernel
theorem dX1_walk_12 : decode cX1_walk 12 = .ok (.istore 4, 2) := by decide +kernel
theorem dX1_walk_14 : decode cX1_walk 14 = .ok (.aload_n 0, 1) := by decide +kernel
theorem dX1_walk_15 : decode cX1_walk 15 = .ok (.iload_n 2, 1) := by decide +kernel
theorem dX1_walk_16 : decode cX1_walk 16 = .ok (.iload 4, 2) := by decide +kernel
theorem dX1_walk_18 : decode cX1_walk 18 = .ok (.invokevirtual 46, 3) := by decide +kernel
theorem dX1_walk_21 : decode cX1_walk 21 = .ok (.ldc2_w 37, 3) := by decide +kernel
theorem dX1_walk_24 : decode cX1_walk 24 = .ok (.lcmp, 1) := by decide +kernel
theorem dX1_walk_25 : decode cX1_walk 25 = .ok (.ifCond .eq 61, 3) := by decide +kernel
theorem dX1_walk_28 : decode cX1_walk 28 = .ok (.aload_n 0, 1) := by decide +kernel
theorem dX1_walk_29 : decode cX1_walk 29 = .ok (.getfield 27, 3) := by decide +kernel
theorem dX1_walk_32 : decode cX1_walk 32 = .ok (.bipush 20, 2) := by decide +kernel
theorem dX1_walk_34 : decode cX1_walk 34 = .ok (.iload_n 3, 1) := by decide +kernel
theorem dX1_walk_35 : decode cX1_walk 35 = .ok (.iconst 1, 1) := by decide +kernel
theorem dX1_walk_36 : decode cX1_walk 36 = .ok (.isub, 1) := by decide +kernel
theorem dX1_walk_37 : decode cX1_walk 37 = .ok (.imul, 1) := by decide +kernel
theorem dX1_walk_38 : decode cX1_walk 38 = .ok (.iload 4, 2) := by decide +kernel
theorem dX1_walk_40 : decode cX1_walk 40 = .ok (.iadd, 1) := by decide +kernel
theorem dX1_walk_41 : decode cX1_walk 41 = .ok (.laload, 1) := by decide +kernel
theorem dX1_walk_42 : decode cX1_walk 42 = .ok (.ldc2_w 37, 3) := by decide +kernel
theorem dX1_walk_45 : decode cX1_walk 45 = .ok (.lcmp, 1) := by decide +kernel
theorem dX1_walk_46 : decode cX1_walk 46 = .ok (.ifCond .eq 40, 3) := by decide +kernel
theorem dX1_walk_49 : decode cX1_walk 49 = .ok (.aload_n 0, 1) := by decide +kernel
theorem dX1_walk_50 : decode cX1_walk 50 = .ok (.iload_n 2, 1) := by decide +kernel
theorem dX1_walk_51 : decode cX1_walk 51 = .ok (.iload 4, 2) := by decide +kernel
theorem dX1_walk_53 : decode cX1_walk 53 = .ok (.invokevirtual 46, 3) := by decide +kernel
theorem dX1_walk_56 : decode cX1_walk 56 = .ok (.aload_n 0, 1) := by decide +kernel
theorem dX1_walk_57 : decode cX1_walk 57 = .ok (.getfield 27, 3) := by decide +kernel
theorem dX1_walk_60 : decode cX1_walk 60 = .ok (.bipush 20, 2) := by decide +kernel
theorem dX1_walk_62 : decode cX1_walk 62 = .ok (.iload_n 3, 1) := by decide +kernel
theorem dX1_walk_63 : decode cX1_walk 63 = .ok (.iconst 1, 1) := by decide +kernel
theorem dX1_walk_64 : decode cX1_walk 64 = .ok (.isub, 1) := by decide +kernel
theorem dX1_walk_65 : decode cX1_walk 65 = .ok (.imul, 1) := by decide +kernel
theorem dX1_walk_66 : decode cX1_walk 66 = .ok (.iload 4, 2) := by decide +kernel
theorem dX1_walk_68 : decode cX1_walk 68 = .ok (.iadd, 1) := by decide +kernel
theorem dX1_walk_69 : decode cX1_walk 69 = .ok (.laload, 1) := by decide +kernel
theorem dX1_walk_70 : decode cX1_walk 70 = .ok (.ladd, 1) := by decide +kernel
theorem dX1_walk_71 : decode cX1_walk 71 = .ok (.aload_n 0, 1) := by decide +kernel
theorem dX1_walk_72 : decode cX1_walk 72 = .ok (.getfield 27, 3) := by decide +kernel
theorem dX1_walk_75 : decode cX1_walk 75 = .ok (.bipush 20, 2) := by decide +kernel
theorem dX1_walk_77 : decode cX1_walk 77 = .ok (.iload_n 3, 1) := by decide +kernel
theorem dX1_walk_78 : decode cX1_walk 78 = .ok (.imul, 1) := by decide +kernel
theorem dX1_walk_79 : decode cX1_walk 79 = .ok (.iload_n 2, 1) := by decide +kernel
theorem dX1_walk_80 : decode cX1_walk 80 = .ok (.iadd, 1) := by decide +kernel
theorem dX1_walk_81 : decode cX1_walk 81 = .ok (.laload, 1) := by decide +kernel
theorem dX1_walk_82 : decode cX1_walk 82 = .ok (.lcmp, 1) := by decide +kernel
theorem dX1_walk_83 : decode cX1_walk 83 = .ok (.ifCond .eq 9, 3) := by decide +kernel
theorem dX1_walk_86 : decode cX1_walk 86 = .ok (.iinc 4 1, 3) := by decide +kernel
theorem dX1_walk_89 : decode cX1_walk 89 = .ok (.goto (-75), 3) := by decide +kernel
theorem dX1_walk_92 : decode cX1_walk 92 = .ok (.aload_n 0, 1) := by decide +kernel
theorem dX1_walk_93 : decode cX1_walk 93 = .ok (.getfield 24, 3) := by decide +kernel
theorem dX1_walk_96 : decode cX1_walk 96 = .ok (.aload_n 0, 1) := by decide +kernel
theorem dX1_walk_97 : decode cX1_walk 97 = .ok (.getfield 50, 3) := by decide +kernel
theorem dX1_walk_100 : decode cX1_walk 100 = .ok (.iload 4, 2) := by decide +kernel
theorem dX1_walk_102 : decode cX1_walk 102 = .ok (.iastore, 1) := by decide +kernel
theorem dX1_walk_103 : decode cX1_walk 103 = .ok (.aload_n 0, 1) := by decide +kernel
theorem dX1_walk_104 : decode cX1_walk 104 = .ok (.dup, 1) := by decide +kernel
theorem dX1_walk_105 : decode cX1_walk 105 = .ok (.getfield 50, 3) := by decide +kernel
theorem dX1_walk_108 : decode cX1_walk 108 = .ok (.iconst 1, 1) := by decide +kernel
theorem dX1_walk_109 : decode cX1_walk 109 = .ok (.iadd, 1) := by decide +kernel
theorem dX1_walk_110 : decode cX1_walk 110 = .ok (.putfield 50, 3) := by decide +kernel
theorem dX1_walk_113 : decode cX1_walk 113 = .ok (.iload 4, 2) := by decide +kernel
theorem dX1_walk_115 : decode cX1_walk 115 = .ok (.istore_n 2, 1) := by decide +kernel
theorem dX1_walk_116 : decode cX1_walk 116 = .ok (.iinc 3 (-1), 3) := by decide +kernel
theorem dX1_walk_119 : decode cX1_walk 119 = .ok (.goto (-112), 3) := by decide +kernel
theorem dX1_walk_122 : decode cX1_walk 122 = .ok (.return_, 1) := by decide +kernel
theorem dX1_isBad_0 : decode cX1_isBad 0 = .ok (.aload_n 0, 1) := by decide +kernel
theorem dX1_isBad_1 : decode cX1_isBad 1 = .ok (.iload_n 2, 1) := by decide +kernel
theorem dX1_isBad_2 : decode cX1_isBad 2 = .ok (.iload_n 1, 1) := by decide +kernel
theorem dX1_isBad_3 : decode cX1_isBad 3 = .ok (.invokevirtual 53, 3) := by decide +kernel
theorem dX1_isBad_6 : decode cX1_isBad 6 = .ok (.ifCond .eq 14, 3) := by decide +kernel
theorem dX1_isBad_9 : decode cX1_isBad 9 = .ok (.lload_n 3, 1) := by decide +kernel
theorem dX1_isBad_10 : decode cX1_isBad 10 = .ok (.aload_n 0, 1) := by decide +kernel
theorem dX1_isBad_11 : decode cX1_isBad 11 = .ok (.getfield 42, 3) := by decide +kernel
theorem dX1_isBad_14 : decode cX1_isBad 14 = .ok (.ladd, 1) := by decide +kernel
theorem dX1_isBad_15 : decode cX1_isBad 15 = .ok (.lconst 0, 1) := by decide +kernel
theorem dX1_isBad_16 : decode cX1_isBad 16 = .ok (.lcmp, 1) := by decide +kernel
theorem dX1_isBad_17 : decode cX1_isBad 17 = .ok (.ifCond .lt 5, 3) := by decide +kernel
theorem dX1_isBad_20 : decode cX1_isBad 20 = .ok (.iconst 0, 1) := by decide +kernel
theorem dX1_isBad_21 : decode cX1_isBad 21 = .ok (.ireturn, 1) := by decide +kernel
theorem dX1_isBad_22 : decode cX1_isBad 22 = .ok (.aload_n 0, 1) := by decide +kernel
theorem dX1_isBad_23 : decode cX1_isBad 23 = .ok (.getfield 24, 3) := by decide +kernel
theorem dX1_isBad_26 : decode cX1_isBad 26 = .ok (.iconst 0, 1) := by decide +kernel
theorem dX1_isBad_27 : decode cX1_isBad 27 = .ok (.iload_n 1, 1) := by decide +kernel
theorem dX1_isBad_28 : decode cX1_isBad 28 = .ok (.iastore, 1) := by decide +kernel
theorem dX1_isBad_29 : decode cX1_isBad 29 = .ok (.aload_n 0, 1) := by decide +kernel
theorem dX1_isBad_30 : decode cX1_isBad 30 = .ok (.getfield 24, 3) := by decide +kernel
theorem dX1_isBad_33 : decode cX1_isBad 33 = .ok (.iconst 1, 1) := by decide +kernel
theorem dX1_isBad_34 : decode cX1_isBad 34 = .ok (.iload_n 2, 1) := by decide +kernel
theorem dX1_isBad_35 : decode cX1_isBad 35 = .ok (.iastore, 1) := by decide +kernel
theorem dX1_isBad_36 : decode cX1_isBad 36 = .ok (.aload_n 0, 1) := by decide +kernel
theorem dX1_isBad_37 : decode cX1_isBad 37 = .ok (.iconst 2, 1) := by decide +kernel
theorem dX1_isBad_38 : decode cX1_isBad 38 = .ok (.putfield 50, 3) := by decide +kernel
theorem dX1_isBad_41 : decode cX1_isBad 41 = .ok (.aload_n 0, 1) := by decide +kernel
theorem dX1_isBad_42 : decode cX1_isBad 42 = .ok (.iload_n 2, 1) := by decide +kernel
theorem dX1_isBad_43 : decode cX1_isBad 43 = .ok (.invokevirtual 57, 3) := by decide +kernel
theorem dX1_isBad_46 : decode cX1_isBad 46 = .ok (.aload_n 0, 1) := by decide +kernel
theorem dX1_isBad_47 : decode cX1_isBad 47 = .ok (.lload_n 3, 1) := by decide +kernel
theorem dX1_isBad_48 : decode cX1_isBad 48 = .ok (.aload_n 0, 1) := by decide +kernel
theorem dX1_isBad_49 : decode cX1_isBad 49 = .ok (.getfield 42, 3) := by decide +kernel
theorem dX1_isBad_52 : decode cX1_isBad 52 = .ok (.ladd, 1) := by decide +kernel
theorem dX1_isBad_53 : decode cX1_isBad 53 = .ok (.putfield 61, 3) := by decide +kernel
theorem dX1_isBad_56 : decode cX1_isBad 56 = .ok (.iconst 1, 1) := by decide +kernel
theorem dX1_isBad_57 : decode cX1_isBad 57 = .ok (.ireturn, 1) := by decide +kernel
theorem dX1_add_0 : decode cX1_add 0 = .ok (.aload_n 0, 1) := by decide +kernel
theorem dX1_add_1 : decode cX1_add 1 = .ok (.iconst 0, 1) := by decide +kernel
theorem dX1_add_2 : decode cX1_add 2 = .ok (.putfield 30, 3) := by decide +kernel
theorem dX1_add_5 : decode cX1_add 5 = .ok (.iload_n 1, 1) := by decide +kernel
theorem dX1_add_6 : decode cX1_add 6 = .ok (.invokestatic 64, 3) := by decide +kernel
theorem dX1_add_9 : decode cX1_add 9 = .ok (.ifCond .eq 40, 3) := by decide +kernel
theorem dX1_add_12 : decode cX1_add 12 = .ok (.iload_n 2, 1) := by decide +kernel
theorem dX1_add_13 : decode cX1_add 13 = .ok (.invokestatic 64, 3) := by decide +kernel
theorem dX1_add_16 : decode cX1_add 16 = .ok (.ifCond .eq 33, 3) := by decide +kernel
theorem dX1_add_19 : decode cX1_add 19 = .ok (.iload_n 1, 1) := by decide +kernel
theorem dX1_add_20 : decode cX1_add 20 = .ok (.iload_n 2, 1) := by decide +kernel
theorem dX1_add_21 : decode cX1_add 21 = .ok (.if_icmp .eq 28, 3) := by decide +kernel
theorem dX1_add_24 : decode cX1_add 24 = .ok (.lload_n 3, 1) := by decide +kernel
theorem dX1_add_25 : decode cX1_add 25 = .ok (.ldc2_w 68, 3) := by decide +kernel
theorem dX1_add_28 : decode cX1_add 28 = .ok (.lcmp, 1) := by decide +kernel
theorem dX1_add_29 : decode cX1_add 29 = .ok (.ifCond .lt 20, 3) := by decide +kernel
theorem dX1_add_32 : decode cX1_add 32 = .ok (.lload_n 3, 1) := by decide +kernel
theorem dX1_add_33 : decode cX1_add 33 = .ok (.ldc2_w 70, 3) := by decide +kernel
theorem dX1_add_36 : decode cX1_add 36 = .ok (.lcmp, 1) := by decide +kernel
theorem dX1_add_37 : decode cX1_add 37 = .ok (.ifCond .gt 12, 3) := by decide +kernel
theorem dX1_add_40 : decode cX1_add 40 = .ok (.aload_n 0, 1) := by decide +kernel
theorem dX1_add_41 : decode cX1_add 41 = .ok (.getfield 34, 3) := by decide +kernel
theorem dX1_add_44 : decode cX1_add 44 = .ok (.bipush 120, 2) := by decide +kernel
theorem dX1_add_46 : decode cX1_add 46 = .ok (.if_icmp .ne 5, 3) := by decide +kernel
theorem dX1_add_49 : decode cX1_add 49 = .ok (.iconst (-1), 1) := by decide +kernel
theorem dX1_add_50 : decode cX1_add 50 = .ok (.ireturn, 1) := by decide +kernel
theorem dX1_add_51 : decode cX1_add 51 = .ok (.aload_n 0, 1) := by decide +kernel
theorem dX1_add_52 : decode cX1_add 52 = .ok (.iload_n 1, 1) := by decide +kernel
theorem dX1_add_53 : decode cX1_add 53 = .ok (.iload_n 2, 1) := by decide +kernel
theorem dX1_add_54 : decode cX1_add 54 = .ok (.lload_n 3, 1) := by decide +kernel
theorem dX1_add_55 : decode cX1_add 55 = .ok (.invokevirtual 72, 3) := by decide +kernel
theorem dX1_add_58 : decode cX1_add 58 = .ok (.ifCond .eq 6, 3) := by decide +kernel
theorem dX1_add_61 : decode cX1_add 61 = .ok (.bipush (-2), 2) := by decide +kernel
theorem dX1_add_63 : decode cX1_add 63 = .ok (.ireturn, 1) := by decide +kernel
theorem dX1_add_64 : decode cX1_add 64 = .ok (.aload_n 0, 1) := by decide +kernel
theorem dX1_add_65 : decode cX1_add 65 = .ok (.getfield 7, 3) := by decide +kernel
theorem dX1_add_68 : decode cX1_add 68 = .ok (.aload_n 0, 1) := by decide +kernel
theorem dX1_add_69 : decode cX1_add 69 = .ok (.getfield 34, 3) := by decide +kernel
theorem dX1_add_72 : decode cX1_add 72 = .ok (.iload_n 1, 1) := by decide +kernel
theorem dX1_add_73 : decode cX1_add 73 = .ok (.iastore, 1) := by decide +kernel
theorem dX1_add_74 : decode cX1_add 74 = .ok (.aload_n 0, 1) := by decide +kernel
theorem dX1_add_75 : decode cX1_add 75 = .ok (.getfield 13, 3) := by decide +kernel
theorem dX1_add_78 : decode cX1_add 78 = .ok (.aload_n 0, 1) := by decide +kernel
theorem dX1_add_79 : decode cX1_add 79 = .ok (.getfield 34, 3) := by decide +kernel
theorem dX1_add_82 : decode cX1_add 82 = .ok (.iload_n 2, 1) := by decide +kernel
theorem dX1_add_83 : decode cX1_add 83 = .ok (.iastore, 1) := by decide +kernel
theorem dX1_add_84 : decode cX1_add 84 = .ok (.aload_n 0, 1) := by decide +kernel
theorem dX1_add_85 : decode cX1_add 85 = .ok (.getfield 16, 3) := by decide +kernel
theorem dX1_add_88 : decode cX1_add 88 = .ok (.aload_n 0, 1) := by decide +kernel
theorem dX1_add_89 : decode cX1_add 89 = .ok (.getfield 34, 3) := by decide +kernel
theorem dX1_add_92 : decode cX1_add 92 = .ok (.lload_n 3, 1) := by decide +kernel
theorem dX1_add_93 : decode cX1_add 93 = .ok (.lastore, 1) := by decide +kernel
theorem dX1_add_94 : decode cX1_add 94 = .ok (.aload_n 0, 1) := by decide +kernel
theorem dX1_add_95 : decode cX1_add 95 = .ok (.getfield 20, 3) := by decide +kernel
theorem dX1_add_98 : decode cX1_add 98 = .ok (.aload_n 0, 1) := by decide +kernel
theorem dX1_add_99 : decode cX1_add 99 = .ok (.getfield 34, 3) := by decide +kernel
theorem dX1_add_102 : decode cX1_add 102 = .ok (.iconst 1, 1) := by decide +kernel
theorem dX1_add_103 : decode cX1_add 103 = .ok (.bastore, 1) := by decide +kernel
theorem dX1_add_104 : decode cX1_add 104 = .ok (.aload_n 0, 1) := by decide +kernel
theorem dX1_add_105 : decode cX1_add 105 = .ok (.dup, 1) := by decide +kernel
theorem dX1_add_106 : decode cX1_add 106 = .ok (.getfield 34, 3) := by decide +kernel
theorem dX1_add_109 : decode cX1_add 109 = .ok (.iconst 1, 1) := by decide +kernel
theorem dX1_add_110 : decode cX1_add 110 = .ok (.iadd, 1) := by decide +kernel
theorem dX1_add_111 : decode cX1_add 111 = .ok (.putfield 34, 3) := by decide +kernel
theorem dX1_add_114 : decode cX1_add 114 = .ok (.aload_n 0, 1) := by decide +kernel
theorem dX1_add_115 : decode cX1_add 115 = .ok (.getfield 34, 3) := by decide +kernel
theorem dX1_add_118 : decode cX1_add 118 = .ok (.iconst 1, 1) := by decide +kernel
theorem dX1_add_119 : decode cX1_add 119 = .ok (.isub, 1) := by decide +kernel
theorem dX1_add_120 : decode cX1_add 120 = .ok (.ireturn, 1) := by decide +kernel
theorem dX1_off_0 : decode cX1_off 0 = .ok (.aload_n 0, 1) := by decide +kernel
theorem dX1_off_1 : decode cX1_off 1 = .ok (.iconst 0, 1) := by decide +kernel
theorem dX1_off_2 : decode cX1_off 2 = .ok (.putfield 30, 3) := by decide +kernel
theorem dX1_off_5 : decode cX1_off 5 = .ok (.aload_n 0, 1) := by decide +kernel
theorem dX1_off_6 : decode cX1_off 6 = .ok (.iload_n 1, 1) := by decide +kernel
theorem dX1_off_7 : decode cX1_off 7 = .ok (.invokevirtual 76, 3) := by decide +kernel
theorem dX1_off_10 : decode cX1_off 10 = .ok (.ifCond .eq 12, 3) := by decide +kernel
theorem dX1_off_13 : decode cX1_off 13 = .ok (.aload_n 0, 1) := by decide +kernel
theorem dX1_off_14 : decode cX1_off 14 = .ok (.getfield 20, 3) := by decide +kernel
theorem dX1_off_17 : decode cX1_off 17 = .ok (.iload_n 1, 1) := by decide +kernel
theorem dX1_off_18 : decode cX1_off 18 = .ok (.baload, 1) := by decide +kernel
theorem dX1_off_19 : decode cX1_off 19 = .ok (.ifCond .ne 5, 3) := by decide +kernel
theorem dX1_off_22 : decode cX1_off 22 = .ok (.iconst 0, 1) := by decide +kernel
theorem dX1_off_23 : decode cX1_off 23 = .ok (.ireturn, 1) := by decide +kernel
theorem dX1_off_24 : decode cX1_off 24 = .ok (.aload_n 0, 1) := by decide +kernel
theorem dX1_off_25 : decode cX1_off 25 = .ok (.getfield 20, 3) := by decide +kernel
theorem dX1_off_28 : decode cX1_off 28 = .ok (.iload_n 1, 1) := by decide +kernel
theorem dX1_off_29 : decode cX1_off 29 = .ok (.iconst 0, 1) := by decide +kernel
theorem dX1_off_30 : decode cX1_off 30 = .ok (.bastore, 1) := by decide +kernel
theorem dX1_off_31 : decode cX1_off 31 = .ok (.iconst 1, 1) := by decide +kernel
theorem dX1_off_32 : decode cX1_off 32 = .ok (.ireturn, 1) := by decide +kernel
theorem dX1_on_0 : decode cX1_on 0 = .ok (.aload_n 0, 1) := by decide +kernel
theorem dX1_on_1 : decode cX1_on 1 = .ok (.iconst 0, 1) := by decide +kernel
theorem dX1_on_2 : decode cX1_on 2 = .ok (.putfield 30, 3) := by decide +kernel
theorem dX1_on_5 : decode cX1_on 5 = .ok (.aload_n 0, 1) := by decide +kernel
theorem dX1_on_6 : decode cX1_on 6 = .ok (.iload_n 1, 1) := by decide +kernel
theorem dX1_on_7 : decode cX1_on 7 = .ok (.invokevirtual 76, 3) := by decide +kernel
theorem dX1_on_10 : decode cX1_on 10 = .ok (.ifCond .eq 12, 3) := by decide +kernel
theorem dX1_on_13 : decode cX1_on 13 = .ok (.aload_n 0, 1) := by decide +kernel
theorem dX1_on_14 : decode cX1_on 14 = .ok (.getfield 20, 3) := by decide +kernel
theorem dX1_on_17 : decode cX1_on 17 = .ok (.iload_n 1, 1) := by decide +kernel
theorem dX1_on_18 : decode cX1_on 18 = .ok (.baload, 1) := by decide +kernel
theorem dX1_on_19 : decode cX1_on 19 = .ok (.ifCond .eq 5, 3) := by decide +kernel
theorem dX1_on_22 : decode cX1_on 22 = .ok (.iconst (-1), 1) := by decide +kernel
theorem dX1_on_23 : decode cX1_on 23 = .ok (.ireturn, 1) := by decide +kernel
theorem dX1_on_24 : decode cX1_on 24 = .ok (.aload_n 0, 1) := by decide +kernel
theorem dX1_on_25 : decode cX1_on 25 = .ok (.aload_n 0, 1) := by decide +kernel
theorem dX1_on_26 : decode cX1_on 26 = .ok (.getfield 7, 3) := by decide +kernel
theorem dX1_on_29 : decode cX1_on 29 = .ok (.iload_n 1, 1) := by decide +kernel
theorem dX1_on_30 : decode cX1_on 30 = .ok (.iaload, 1) := by decide +kernel
theorem dX1_on_31 : decode cX1_on 31 = .ok (.aload_n 0, 1) := by decide +kernel
theorem dX1_on_32 : decode cX1_on 32 = .ok (.getfield 13, 3) := by decide +kernel
theorem dX1_on_35 : decode cX1_on 35 = .ok (.iload_n 1, 1) := by decide +kernel
theorem dX1_on_36 : decode cX1_on 36 = .ok (.iaload, 1) := by decide +kernel
theorem dX1_on_37 : decode cX1_on 37 = .ok (.aload_n 0, 1) := by decide +kernel
theorem dX1_on_38 : decode cX1_on 38 = .ok (.getfield 16, 3) := by decide +kernel
theorem dX1_on_41 : decode cX1_on 41 = .ok (.iload_n 1, 1) := by decide +kernel
theorem dX1_on_42 : decode cX1_on 42 = .ok (.laload, 1) := by decide +kernel
theorem dX1_on_43 : decode cX1_on 43 = .ok (.invokevirtual 72, 3) := by decide +kernel
theorem dX1_on_46 : decode cX1_on 46 = .ok (.ifCond .eq 6, 3) := by decide +kernel
theorem dX1_on_49 : decode cX1_on 49 = .ok (.bipush (-2), 2) := by decide +kernel
theorem dX1_on_51 : decode cX1_on 51 = .ok (.ireturn, 1) := by decide +kernel
theorem dX1_on_52 : decode cX1_on 52 = .ok (.aload_n 0, 1) := by decide +kernel
theorem dX1_on_53 : decode cX1_on 53 = .ok (.getfield 20, 3) := by decide +kernel
theorem dX1_on_56 : decode cX1_on 56 = .ok (.iload_n 1, 1) := by decide +kernel
theorem dX1_on_57 : decode cX1_on 57 = .ok (.iconst 1, 1) := by decide +kernel
theorem dX1_on_58 : decode cX1_on 58 = .ok (.bastore, 1) := by decide +kernel
theorem dX1_on_59 : decode cX1_on 59 = .ok (.iload_n 1, 1) := by decide +kernel
theorem dX1_on_60 : decode cX1_on 60 = .ok (.ireturn, 1) := by decide +kernel
theorem dX1_bound_0 : decode cX1_bound 0 = .ok (.aload_n 0, 1) := by decide +kernel
theorem dX1_bound_1 : decode cX1_bound 1 = .ok (.iload_n 1, 1) := by decide +kernel
theorem dX1_bound_2 : decode cX1_bound 2 = .ok (.invokestatic 64, 3) := by decide +kernel
theorem dX1_bound_5 : decode cX1_bound 5 = .ok (.ifCond .eq 14, 3) := by decide +kernel
theorem dX1_bound_8 : decode cX1_bound 8 = .ok (.iload_n 2, 1) := by decide +kernel
theorem dX1_bound_9 : decode cX1_bound 9 = .ok (.invokestatic 64, 3) := by decide +kernel
theorem dX1_bound_12 : decode cX1_bound 12 = .ok (.ifCond .eq 7, 3) := by decide +kernel
theorem dX1_bound_15 : decode cX1_bound 15 = .ok (.iconst 0, 1) := by decide +kernel
theorem dX1_bound_16 : decode cX1_bound 16 = .ok (.goto 4, 3) := by decide +kernel
theorem dX1_bound_19 : decode cX1_bound 19 = .ok (.iconst 1, 1) := by decide +kernel
theorem dX1_bound_20 : decode cX1_bound 20 = .ok (.putfield 30, 3) := by decide +kernel
theorem dX1_bound_23 : decode cX1_bound 23 = .ok (.aload_n 0, 1) := by decide +kernel
theorem dX1_bound_24 : decode cX1_bound 24 = .ok (.getfield 30, 3) := by decide +kernel
theorem dX1_bound_27 : decode cX1_bound 27 = .ok (.ifCond .le 5, 3) := by decide +kernel
theorem dX1_bound_30 : decode cX1_bound 30 = .ok (.lconst 0, 1) := by decide +kernel
theorem dX1_bound_31 : decode cX1_bound 31 = .ok (.lreturn, 1) := by decide +kernel
theorem dX1_bound_32 : decode cX1_bound 32 = .ok (.aload_n 0, 1) := by decide +kernel
theorem dX1_bound_33 : decode cX1_bound 33 = .ok (.iload_n 1, 1) := by decide +kernel
theorem dX1_bound_34 : decode cX1_bound 34 = .ok (.iload_n 2, 1) := by decide +kernel
theorem dX1_bound_35 : decode cX1_bound 35 = .ok (.invokevirtual 53, 3) := by decide +kernel
theorem dX1_bound_38 : decode cX1_bound 38 = .ok (.ifCond .eq 10, 3) := by decide +kernel
theorem dX1_bound_41 : decode cX1_bound 41 = .ok (.aload_n 0, 1) := by decide +kernel
theorem dX1_bound_42 : decode cX1_bound 42 = .ok (.getfield 42, 3) := by decide +kernel
theorem dX1_bound_45 : decode cX1_bound 45 = .ok (.goto 6, 3) := by decide +kernel
theorem dX1_bound_48 : decode cX1_bound 48 = .ok (.ldc2_w 37, 3) := by decide +kernel
theorem dX1_bound_51 : decode cX1_bound 51 = .ok (.lreturn, 1) := by decide +kernel
theorem dX1_steps_0 : decode cX1_steps 0 = .ok (.aload_n 0, 1) := by decide +kernel
theorem dX1_steps_1 : decode cX1_steps 1 = .ok (.iconst 0, 1) := by decide +kernel
theorem dX1_steps_2 : decode cX1_steps 2 = .ok (.putfield 30, 3) := by decide +kernel
theorem dX1_steps_5 : decode cX1_steps 5 = .ok (.iload_n 1, 1) := by decide +kernel
theorem dX1_steps_6 : decode cX1_steps 6 = .ok (.invokestatic 64, 3) := by decide +kernel
theorem dX1_steps_9 : decode cX1_steps 9 = .ok (.ifCond .eq 26, 3) := by decide +kernel
theorem dX1_steps_12 : decode cX1_steps 12 = .ok (.iload_n 2, 1) := by decide +kernel
theorem dX1_steps_13 : decode cX1_steps 13 = .ok (.invokestatic 64, 3) := by decide +kernel
theorem dX1_steps_16 : decode cX1_steps 16 = .ok (.ifCond .eq 19, 3) := by decide +kernel
theorem dX1_steps_19 : decode cX1_steps 19 = .ok (.aload_n 0, 1) := by decide +kernel
theorem dX1_steps_20 : decode cX1_steps 20 = .ok (.iload_n 1, 1) := by decide +kernel
theorem dX1_steps_21 : decode cX1_steps 21 = .ok (.iload_n 2, 1) := by decide +kernel
theorem dX1_steps_22 : decode cX1_steps 22 = .ok (.invokevirtual 53, 3) := by decide +kernel
theorem dX1_steps_25 : decode cX1_steps 25 = .ok (.ifCond .eq 10, 3) := by decide +kernel
theorem dX1_steps_28 : decode cX1_steps 28 = .ok (.aload_n 0, 1) := by decide +kernel
theorem dX1_steps_29 : decode cX1_steps 29 = .ok (.getfield 39, 3) := by decide +kernel
theorem dX1_steps_32 : decode cX1_steps 32 = .ok (.goto 4, 3) := by decide +kernel
theorem dX1_steps_35 : decode cX1_steps 35 = .ok (.iconst (-1), 1) := by decide +kernel
theorem dX1_steps_36 : decode cX1_steps 36 = .ok (.ireturn, 1) := by decide +kernel
theorem dX1_path_0 : decode cX1_path 0 = .ok (.aload_n 0, 1) := by decide +kernel
theorem dX1_path_1 : decode cX1_path 1 = .ok (.iconst 0, 1) := by decide +kernel
theorem dX1_path_2 : decode cX1_path 2 = .ok (.putfield 30, 3) := by decide +kernel
theorem dX1_path_5 : decode cX1_path 5 = .ok (.iload_n 1, 1) := by decide +kernel
theorem dX1_path_6 : decode cX1_path 6 = .ok (.invokestatic 64, 3) := by decide +kernel
theorem dX1_path_9 : decode cX1_path 9 = .ok (.ifCond .eq 19, 3) := by decide +kernel
theorem dX1_path_12 : decode cX1_path 12 = .ok (.iload_n 2, 1) := by decide +kernel
theorem dX1_path_13 : decode cX1_path 13 = .ok (.invokestatic 64, 3) := by decide +kernel
theorem dX1_path_16 : decode cX1_path 16 = .ok (.ifCond .eq 12, 3) := by decide +kernel
theorem dX1_path_19 : decode cX1_path 19 = .ok (.aload_n 0, 1) := by decide +kernel
theorem dX1_path_20 : decode cX1_path 20 = .ok (.iload_n 1, 1) := by decide +kernel
theorem dX1_path_21 : decode cX1_path 21 = .ok (.iload_n 2, 1) := by decide +kernel
theorem dX1_path_22 : decode cX1_path 22 = .ok (.invokevirtual 53, 3) := by decide +kernel
theorem dX1_path_25 : decode cX1_path 25 = .ok (.ifCond .ne 5, 3) := by decide +kernel
theorem dX1_path_28 : decode cX1_path 28 = .ok (.iconst (-1), 1) := by decide +kernel
theorem dX1_path_29 : decode cX1_path 29 = .ok (.ireturn, 1) := by decide +kernel
theorem dX1_path_30 : decode cX1_path 30 = .ok (.aload_n 0, 1) := by decide +kernel
theorem dX1_path_31 : decode cX1_path 31 = .ok (.getfield 24, 3) := by decide +kernel
theorem dX1_path_34 : decode cX1_path 34 = .ok (.iconst 0, 1) := by decide +kernel
theorem dX1_path_35 : decode cX1_path 35 = .ok (.iload_n 1, 1) := by decide +kernel
theorem dX1_path_36 : decode cX1_path 36 = .ok (.iastore, 1) := by decide +kernel
theorem dX1_path_37 : decode cX1_path 37 = .ok (.aload_n 0, 1) := by decide +kernel
theorem dX1_path_38 : decode cX1_path 38 = .ok (.iconst 1, 1) := by decide +kernel
theorem dX1_path_39 : decode cX1_path 39 = .ok (.putfield 50, 3) := by decide +kernel
theorem dX1_path_42 : decode cX1_path 42 = .ok (.aload_n 0, 1) := by decide +kernel
theorem dX1_path_43 : decode cX1_path 43 = .ok (.iload_n 1, 1) := by decide +kernel
theorem dX1_path_44 : decode cX1_path 44 = .ok (.invokevirtual 57, 3) := by decide +kernel
theorem dX1_path_47 : decode cX1_path 47 = .ok (.aload_n 0, 1) := by decide +kernel
theorem dX1_path_48 : decode cX1_path 48 = .ok (.aload_n 0, 1) := by decide +kernel
theorem dX1_path_49 : decode cX1_path 49 = .ok (.getfield 42, 3) := by decide +kernel
theorem dX1_path_52 : decode cX1_path 52 = .ok (.putfield 61, 3) := by decide +kernel
theorem dX1_path_55 : decode cX1_path 55 = .ok (.aload_n 0, 1) := by decide +kernel
theorem dX1_path_56 : decode cX1_path 56 = .ok (.getfield 50, 3) := by decide +kernel
theorem dX1_path_59 : decode cX1_path 59 = .ok (.ireturn, 1) := by decide +kernel
theorem dX1_row_0 : decode cX1_row 0 = .ok (.aload_n 0, 1) := by decide +kernel
theorem dX1_row_1 : decode cX1_row 1 = .ok (.iconst 0, 1) := by decide +kernel
theorem dX1_row_2 : decode cX1_row 2 = .ok (.putfield 30, 3) := by decide +kernel
theorem dX1_row_5 : decode cX1_row 5 = .ok (.aload_n 0, 1) := by decide +kernel
theorem dX1_row_6 : decode cX1_row 6 = .ok (.getfield 50, 3) := by decide +kernel
theorem dX1_row_9 : decode cX1_row 9 = .ok (.ireturn, 1) := by decide +kernel
theorem dX1_rowAt_0 : decode cX1_rowAt 0 = .ok (.aload_n 0, 1) := by decide +kernel
theorem dX1_rowAt_1 : decode cX1_rowAt 1 = .ok (.iconst 0, 1) := by decide +kernel
theorem dX1_rowAt_2 : decode cX1_rowAt 2 = .ok (.putfield 30, 3) := by decide +kernel
theorem dX1_rowAt_5 : decode cX1_rowAt 5 = .ok (.iload_n 1, 1) := by decide +kernel
theorem dX1_rowAt_6 : decode cX1_rowAt 6 = .ok (.ifCond .lt 20, 3) := by decide +kernel
theorem dX1_rowAt_9 : decode cX1_rowAt 9 = .ok (.iload_n 1, 1) := by decide +kernel
theorem dX1_rowAt_10 : decode cX1_rowAt 10 = .ok (.aload_n 0, 1) := by decide +kernel
theorem dX1_rowAt_11 : decode cX1_rowAt 11 = .ok (.getfield 50, 3) := by decide +kernel
theorem dX1_rowAt_14 : decode cX1_rowAt 14 = .ok (.if_icmp .ge 12, 3) := by decide +kernel
theorem dX1_rowAt_17 : decode cX1_rowAt 17 = .ok (.aload_n 0, 1) := by decide +kernel
theorem dX1_rowAt_18 : decode cX1_rowAt 18 = .ok (.getfield 24, 3) := by decide +kernel
theorem dX1_rowAt_21 : decode cX1_rowAt 21 = .ok (.iload_n 1, 1) := by decide +kernel
theorem dX1_rowAt_22 : decode cX1_rowAt 22 = .ok (.iaload, 1) := by decide +kernel
theorem dX1_rowAt_23 : decode cX1_rowAt 23 = .ok (.goto 4, 3) := by decide +kernel
theorem dX1_rowAt_26 : decode cX1_rowAt 26 = .ok (.iconst (-1), 1) := by decide +kernel
theorem dX1_rowAt_27 : decode cX1_rowAt 27 = .ok (.ireturn, 1) := by decide +kernel
theorem dX1_length_0 : decode cX1_length 0 = .ok (.aload_n 0, 1) := by decide +kernel
theorem dX1_length_1 : decode cX1_length 1 = .ok (.iconst 0, 1) := by decide +kernel
theorem dX1_length_2 : decode cX1_length 2 = .ok (.putfield 30, 3) := by decide +kernel
theorem dX1_length_5 : decode cX1_length 5 = .ok (.aload_n 0, 1) := by decide +kernel
theorem dX1_length_6 : decode cX1_length 6 = .ok (.getfield 50, 3) := by decide +kernel
theorem dX1_length_9 : decode cX1_length 9 = .ok (.ifCond .ne 7, 3) := by decide +kernel
theorem dX1_length_12 : decode cX1_length 12 = .ok (.lconst 0, 1) := by decide +kernel
theorem dX1_length_13 : decode cX1_length 13 = .ok (.goto 7, 3) := by decide +kernel
theorem dX1_length_16 : decode cX1_length 16 = .ok (.aload_n 0, 1) := by decide +kernel
theorem dX1_length_17 : decode cX1_length 17 = .ok (.getfield 61, 3) := by decide +kernel
theorem dX1_length_20 : decode cX1_length 20 = .ok (.lreturn, 1) := by decide +kernel
theorem dX1_earliest_0 : decode cX1_earliest 0 = .ok (.aload_n 0, 1) := by decide +kernel
theorem dX1_earliest_1 : decode cX1_earliest 1 = .ok (.iload_n 1, 1) := by decide +kernel
theorem dX1_earliest_2 : decode cX1_earliest 2 = .ok (.invokestatic 64, 3) := by decide +kernel
theorem dX1_earliest_5 : decode cX1_earliest 5 = .ok (.ifCond .eq 7, 3) := by decide +kernel
theorem dX1_earliest_8 : decode cX1_earliest 8 = .ok (.iconst 0, 1) := by decide +kernel
theorem dX1_earliest_9 : decode cX1_earliest 9 = .ok (.goto 4, 3) := by decide +kernel
theorem dX1_earliest_12 : decode cX1_earliest 12 = .ok (.iconst 1, 1) := by decide +kernel
theorem dX1_earliest_13 : decode cX1_earliest 13 = .ok (.putfield 30, 3) := by decide +kernel
theorem dX1_earliest_16 : decode cX1_earliest 16 = .ok (.aload_n 0, 1) := by decide +kernel
theorem dX1_earliest_17 : decode cX1_earliest 17 = .ok (.getfield 30, 3) := by decide +kernel
theorem dX1_earliest_20 : decode cX1_earliest 20 = .ok (.ifCond .le 5, 3) := by decide +kernel
theorem dX1_earliest_23 : decode cX1_earliest 23 = .ok (.lconst 0, 1) := by decide +kernel
theorem dX1_earliest_24 : decode cX1_earliest 24 = .ok (.lreturn, 1) := by decide +kernel
theorem dX1_earliest_25 : decode cX1_earliest 25 = .ok (.aload_n 0, 1) := by decide +kernel
theorem dX1_earliest_26 : decode cX1_earliest 26 = .ok (.iload_n 1, 1) := by decide +kernel
theorem dX1_earliest_27 : decode cX1_earliest 27 = .ok (.iconst 0, 1) := by decide +kernel
theorem dX1_earliest_28 : decode cX1_earliest 28 = .ok (.invokevirtual 53, 3) := by decide +kernel
theorem dX1_earliest_31 : decode cX1_earliest 31 = .ok (.ifCond .eq 11, 3) := by decide +kernel
theorem dX1_earliest_34 : decode cX1_earliest 34 = .ok (.aload_n 0, 1) := by decide +kernel
theorem dX1_earliest_35 : decode cX1_earliest 35 = .ok (.getfield 42, 3) := by decide +kernel
theorem dX1_earliest_38 : decode cX1_earliest 38 = .ok (.lneg, 1) := by decide +kernel
theorem dX1_earliest_39 : decode cX1_earliest 39 = .ok (.goto 6, 3) := by decide +kernel
theorem dX1_earliest_42 : decode cX1_earliest 42 = .ok (.ldc2_w 79, 3) := by decide +kernel
theorem dX1_earliest_45 : decode cX1_earliest 45 = .ok (.lreturn, 1) := by decide +kernel
theorem dX1_slack_0 : decode cX1_slack 0 = .ok (.aload_n 0, 1) := by decide +kernel
theorem dX1_slack_1 : decode cX1_slack 1 = .ok (.iconst 0, 1) := by decide +kernel
theorem dX1_slack_2 : decode cX1_slack 2 = .ok (.putfield 30, 3) := by decide +kernel
theorem dX1_slack_5 : decode cX1_slack 5 = .ok (.aload_n 0, 1) := by decide +kernel
theorem dX1_slack_6 : decode cX1_slack 6 = .ok (.iload_n 1, 1) := by decide +kernel
theorem dX1_slack_7 : decode cX1_slack 7 = .ok (.invokevirtual 76, 3) := by decide +kernel
theorem dX1_slack_10 : decode cX1_slack 10 = .ok (.ifCond .eq 31, 3) := by decide +kernel
theorem dX1_slack_13 : decode cX1_slack 13 = .ok (.aload_n 0, 1) := by decide +kernel
theorem dX1_slack_14 : decode cX1_slack 14 = .ok (.getfield 20, 3) := by decide +kernel
theorem dX1_slack_17 : decode cX1_slack 17 = .ok (.iload_n 1, 1) := by decide +kernel
theorem dX1_slack_18 : decode cX1_slack 18 = .ok (.baload, 1) := by decide +kernel
theorem dX1_slack_19 : decode cX1_slack 19 = .ok (.ifCond .eq 22, 3) := by decide +kernel
theorem dX1_slack_22 : decode cX1_slack 22 = .ok (.aload_n 0, 1) := by decide +kernel
theorem dX1_slack_23 : decode cX1_slack 23 = .ok (.aload_n 0, 1) := by decide +kernel
theorem dX1_slack_24 : decode cX1_slack 24 = .ok (.getfield 7, 3) := by decide +kernel
theorem dX1_slack_27 : decode cX1_slack 27 = .ok (.iload_n 1, 1) := by decide +kernel
theorem dX1_slack_28 : decode cX1_slack 28 = .ok (.iaload, 1) := by decide +kernel
theorem dX1_slack_29 : decode cX1_slack 29 = .ok (.aload_n 0, 1) := by decide +kernel
theorem dX1_slack_30 : decode cX1_slack 30 = .ok (.getfield 13, 3) := by decide +kernel
theorem dX1_slack_33 : decode cX1_slack 33 = .ok (.iload_n 1, 1) := by decide +kernel
theorem dX1_slack_34 : decode cX1_slack 34 = .ok (.iaload, 1) := by decide +kernel
theorem dX1_slack_35 : decode cX1_slack 35 = .ok (.invokevirtual 53, 3) := by decide +kernel
theorem dX1_slack_38 : decode cX1_slack 38 = .ok (.ifCond .ne 7, 3) := by decide +kernel
theorem dX1_slack_41 : decode cX1_slack 41 = .ok (.ldc2_w 81, 3) := by decide +kernel
theorem dX1_slack_44 : decode cX1_slack 44 = .ok (.lreturn, 1) := by decide +kernel
theorem dX1_slack_45 : decode cX1_slack 45 = .ok (.aload_n 0, 1) := by decide +kernel
theorem dX1_slack_46 : decode cX1_slack 46 = .ok (.getfield 16, 3) := by decide +kernel
theorem dX1_slack_49 : decode cX1_slack 49 = .ok (.iload_n 1, 1) := by decide +kernel
theorem dX1_slack_50 : decode cX1_slack 50 = .ok (.laload, 1) := by decide +kernel
theorem dX1_slack_51 : decode cX1_slack 51 = .ok (.aload_n 0, 1) := by decide +kernel
theorem dX1_slack_52 : decode cX1_slack 52 = .ok (.getfield 42, 3) := by decide +kernel
theorem dX1_slack_55 : decode cX1_slack 55 = .ok (.lsub, 1) := by decide +kernel
theorem dX1_slack_56 : decode cX1_slack 56 = .ok (.lreturn, 1) := by decide +kernel
theorem dX1_alive_0 : decode cX1_alive 0 = .ok (.aload_n 0, 1) := by decide +kernel
theorem dX1_alive_1 : decode cX1_alive 1 = .ok (.iconst 0, 1) := by decide +kernel
theorem dX1_alive_2 : decode cX1_alive 2 = .ok (.putfield 30, 3) := by decide +kernel
theorem dX1_alive_5 : decode cX1_alive 5 = .ok (.iconst 0, 1) := by decide +kernel
theorem dX1_alive_6 : decode cX1_alive 6 = .ok (.istore_n 1, 1) := by decide +kernel
theorem dX1_alive_7 : decode cX1_alive 7 = .ok (.iconst 0, 1) := by decide +kernel
theorem dX1_alive_8 : decode cX1_alive 8 = .ok (.istore_n 2, 1) := by decide +kernel
theorem dX1_alive_9 : decode cX1_alive 9 = .ok (.iload_n 2, 1) := by decide +kernel
theorem dX1_alive_10 : decode cX1_alive 10 = .ok (.aload_n 0, 1) := by decide +kernel
theorem dX1_alive_11 : decode cX1_alive 11 = .ok (.getfield 34, 3) := by decide +kernel
theorem dX1_alive_14 : decode cX1_alive 14 = .ok (.if_icmp .ge 26, 3) := by decide +kernel
theorem dX1_alive_17 : decode cX1_alive 17 = .ok (.iload_n 1, 1) := by decide +kernel
theorem dX1_alive_18 : decode cX1_alive 18 = .ok (.aload_n 0, 1) := by decide +kernel
theorem dX1_alive_19 : decode cX1_alive 19 = .ok (.getfield 20, 3) := by decide +kernel
theorem dX1_alive_22 : decode cX1_alive 22 = .ok (.iload_n 2, 1) := by decide +kernel
theorem dX1_alive_23 : decode cX1_alive 23 = .ok (.baload, 1) := by decide +kernel
theorem dX1_alive_24 : decode cX1_alive 24 = .ok (.ifCond .eq 7, 3) := by decide +kernel
theorem dX1_alive_27 : decode cX1_alive 27 = .ok (.iconst 1, 1) := by decide +kernel
theorem dX1_alive_28 : decode cX1_alive 28 = .ok (.goto 4, 3) := by decide +kernel
theorem dX1_alive_31 : decode cX1_alive 31 = .ok (.iconst 0, 1) := by decide +kernel
theorem dX1_alive_32 : decode cX1_alive 32 = .ok (.iadd, 1) := by decide +kernel
theorem dX1_alive_33 : decode cX1_alive 33 = .ok (.istore_n 1, 1) := by decide +kernel
theorem dX1_alive_34 : decode cX1_alive 34 = .ok (.iinc 2 1, 3) := by decide +kernel
theorem dX1_alive_37 : decode cX1_alive 37 = .ok (.goto (-28), 3) := by decide +kernel
theorem dX1_alive_40 : decode cX1_alive 40 = .ok (.iload_n 1, 1) := by decide +kernel
theorem dX1_alive_41 : decode cX1_alive 41 = .ok (.ireturn, 1) := by decide +kernel
end
section
theorem dL_bound_0 : decode cL_bound 0 = .ok (.aload_n 3, 1) := by decide +kernel
theorem dL_bound_1 : decode cL_bound 1 = .ok (.iconst 0, 1) := by decide +kernel
theorem dL_bound_2 : decode cL_bound 2 = .ok (.aload_n 0, 1) := by decide +kernel
theorem dL_bound_3 : decode cL_bound 3 = .ok (.iload_n 1, 1) := by decide +kernel
theorem dL_bound_4 : decode cL_bound 4 = .ok (.iload_n 2, 1) := by decide +kernel
theorem dL_bound_5 : decode cL_bound 5 = .ok (.invokevirtual 7, 3) := by decide +kernel
theorem dL_bound_8 : decode cL_bound 8 = .ok (.lastore, 1) := by decide +kernel
theorem dL_bound_9 : decode cL_bound 9 = .ok (.goto 7, 3) := by decide +kernel
theorem dL_bound_12 : decode cL_bound 12 = .ok (.astore 4, 2) := by decide +kernel
theorem dL_bound_14 : decode cL_bound 14 = .ok (.iconst 1, 1) := by decide +kernel
theorem dL_bound_15 : decode cL_bound 15 = .ok (.ireturn, 1) := by decide +kernel
theorem dL_bound_16 : decode cL_bound 16 = .ok (.iconst 0, 1) := by decide +kernel
theorem dL_bound_17 : decode cL_bound 17 = .ok (.ireturn, 1) := by decide +kernel
theorem dL_earliest_0 : decode cL_earliest 0 = .ok (.aload_n 2, 1) := by decide +kernel
theorem dL_earliest_1 : decode cL_earliest 1 = .ok (.iconst 0, 1) := by decide +kernel
theorem dL_earliest_2 : decode cL_earliest 2 = .ok (.aload_n 0, 1) := by decide +kernel
theorem dL_earliest_3 : decode cL_earliest 3 = .ok (.iload_n 1, 1) := by decide +kernel
theorem dL_earliest_4 : decode cL_earliest 4 = .ok (.invokevirtual 15, 3) := by decide +kernel
theorem dL_earliest_7 : decode cL_earliest 7 = .ok (.lastore, 1) := by decide +kernel
theorem dL_earliest_8 : decode cL_earliest 8 = .ok (.goto 6, 3) := by decide +kernel
theorem dL_earliest_11 : decode cL_earliest 11 = .ok (.astore_n 3, 1) := by decide +kernel
theorem dL_earliest_12 : decode cL_earliest 12 = .ok (.iconst 1, 1) := by decide +kernel
theorem dL_earliest_13 : decode cL_earliest 13 = .ok (.ireturn, 1) := by decide +kernel
theorem dL_earliest_14 : decode cL_earliest 14 = .ok (.iconst 0, 1) := by decide +kernel
theorem dL_earliest_15 : decode cL_earliest 15 = .ok (.ireturn, 1) := by decide +kernel
theorem dL_law_0 : decode cL_law 0 = .ok (.new 8, 3) := by decide +kernel
theorem dL_law_3 : decode cL_law 3 = .ok (.dup, 1) := by decide +kernel
theorem dL_law_4 : decode cL_law 4 = .ok (.invokespecial 19, 3) := by decide +kernel
theorem dL_law_7 : decode cL_law 7 = .ok (.astore_n 1, 1) := by decide +kernel
theorem dL_law_8 : decode cL_law 8 = .ok (.new 20, 3) := by decide +kernel
theorem dL_law_11 : decode cL_law 11 = .ok (.dup, 1) := by decide +kernel
theorem dL_law_12 : decode cL_law 12 = .ok (.invokespecial 22, 3) := by decide +kernel
theorem dL_law_15 : decode cL_law 15 = .ok (.astore_n 2, 1) := by decide +kernel
theorem dL_law_16 : decode cL_law 16 = .ok (.iconst 1, 1) := by decide +kernel
theorem dL_law_17 : decode cL_law 17 = .ok (.newarray .long, 2) := by decide +kernel
theorem dL_law_19 : decode cL_law 19 = .ok (.astore_n 3, 1) := by decide +kernel
theorem dL_law_20 : decode cL_law 20 = .ok (.iconst 0, 1) := by decide +kernel
theorem dL_law_21 : decode cL_law 21 = .ok (.istore 4, 2) := by decide +kernel
theorem dL_law_23 : decode cL_law 23 = .ok (.iload 4, 2) := by decide +kernel
theorem dL_law_25 : decode cL_law 25 = .ok (.aload_n 0, 1) := by decide +kernel
theorem dL_law_26 : decode cL_law 26 = .ok (.arraylength, 1) := by decide +kernel
theorem dL_law_27 : decode cL_law 27 = .ok (.iconst 5, 1) := by decide +kernel
theorem dL_law_28 : decode cL_law 28 = .ok (.isub, 1) := by decide +kernel
theorem dL_law_29 : decode cL_law 29 = .ok (.if_icmp .gt 495, 3) := by decide +kernel
theorem dL_law_32 : decode cL_law 32 = .ok (.aload_n 0, 1) := by decide +kernel
theorem dL_law_33 : decode cL_law 33 = .ok (.iload 4, 2) := by decide +kernel
theorem dL_law_35 : decode cL_law 35 = .ok (.iaload, 1) := by decide +kernel
theorem dL_law_36 : decode cL_law 36 = .ok (.bipush 15, 2) := by decide +kernel
theorem dL_law_38 : decode cL_law 38 = .ok (.iand, 1) := by decide +kernel
theorem dL_law_39 : decode cL_law 39 = .ok (.tableswitch 479 0 11 #[61, 142, 167, 192, 259, 296, 333, 346, 371, 385, 440, 466], 61) := by decide +kernel
theorem dL_law_100 : decode cL_law 100 = .ok (.aload_n 1, 1) := by decide +kernel
theorem dL_law_101 : decode cL_law 101 = .ok (.aload_n 0, 1) := by decide +kernel
theorem dL_law_102 : decode cL_law 102 = .ok (.iload 4, 2) := by decide +kernel
theorem dL_law_104 : decode cL_law 104 = .ok (.iconst 1, 1) := by decide +kernel
theorem dL_law_105 : decode cL_law 105 = .ok (.iadd, 1) := by decide +kernel
theorem dL_law_106 : decode cL_law 106 = .ok (.iaload, 1) := by decide +kernel
theorem dL_law_107 : decode cL_law 107 = .ok (.aload_n 0, 1) := by decide +kernel
theorem dL_law_108 : decode cL_law 108 = .ok (.iload 4, 2) := by decide +kernel
theorem dL_law_110 : decode cL_law 110 = .ok (.iconst 2, 1) := by decide +kernel
theorem dL_law_111 : decode cL_law 111 = .ok (.iadd, 1) := by decide +kernel
theorem dL_law_112 : decode cL_law 112 = .ok (.iaload, 1) := by decide +kernel
theorem dL_law_113 : decode cL_law 113 = .ok (.aload_n 0, 1) := by decide +kernel
theorem dL_law_114 : decode cL_law 114 = .ok (.iload 4, 2) := by decide +kernel
theorem dL_law_116 : decode cL_law 116 = .ok (.iconst 3, 1) := by decide +kernel
theorem dL_law_117 : decode cL_law 117 = .ok (.iadd, 1) := by decide +kernel
theorem dL_law_118 : decode cL_law 118 = .ok (.iaload, 1) := by decide +kernel
theorem dL_law_119 : decode cL_law 119 = .ok (.i2l, 1) := by decide +kernel
theorem dL_law_120 : decode cL_law 120 = .ok (.bipush 32, 2) := by decide +kernel
theorem dL_law_122 : decode cL_law 122 = .ok (.lshl, 1) := by decide +kernel
theorem dL_law_123 : decode cL_law 123 = .ok (.aload_n 0, 1) := by decide +kernel
theorem dL_law_124 : decode cL_law 124 = .ok (.iload 4, 2) := by decide +kernel
theorem dL_law_126 : decode cL_law 126 = .ok (.iconst 4, 1) := by decide +kernel
theorem dL_law_127 : decode cL_law 127 = .ok (.iadd, 1) := by decide +kernel
theorem dL_law_128 : decode cL_law 128 = .ok (.iaload, 1) := by decide +kernel
theorem dL_law_129 : decode cL_law 129 = .ok (.i2l, 1) := by decide +kernel
theorem dL_law_130 : decode cL_law 130 = .ok (.ldc2_w 23, 3) := by decide +kernel
theorem dL_law_133 : decode cL_law 133 = .ok (.land, 1) := by decide +kernel
theorem dL_law_134 : decode cL_law 134 = .ok (.lor, 1) := by decide +kernel
theorem dL_law_135 : decode cL_law 135 = .ok (.invokevirtual 25, 3) := by decide +kernel
theorem dL_law_138 : decode cL_law 138 = .ok (.aload_n 2, 1) := by decide +kernel
theorem dL_law_139 : decode cL_law 139 = .ok (.aload_n 0, 1) := by decide +kernel
theorem dL_law_140 : decode cL_law 140 = .ok (.iload 4, 2) := by decide +kernel
theorem dL_law_142 : decode cL_law 142 = .ok (.iconst 1, 1) := by decide +kernel
theorem dL_law_143 : decode cL_law 143 = .ok (.iadd, 1) := by decide +kernel
theorem dL_law_144 : decode cL_law 144 = .ok (.iaload, 1) := by decide +kernel
theorem dL_law_145 : decode cL_law 145 = .ok (.aload_n 0, 1) := by decide +kernel
theorem dL_law_146 : decode cL_law 146 = .ok (.iload 4, 2) := by decide +kernel
theorem dL_law_148 : decode cL_law 148 = .ok (.iconst 2, 1) := by decide +kernel
theorem dL_law_149 : decode cL_law 149 = .ok (.iadd, 1) := by decide +kernel
theorem dL_law_150 : decode cL_law 150 = .ok (.iaload, 1) := by decide +kernel
theorem dL_law_151 : decode cL_law 151 = .ok (.aload_n 0, 1) := by decide +kernel
theorem dL_law_152 : decode cL_law 152 = .ok (.iload 4, 2) := by decide +kernel
theorem dL_law_154 : decode cL_law 154 = .ok (.iconst 3, 1) := by decide +kernel
theorem dL_law_155 : decode cL_law 155 = .ok (.iadd, 1) := by decide +kernel
theorem dL_law_156 : decode cL_law 156 = .ok (.iaload, 1) := by decide +kernel
theorem dL_law_157 : decode cL_law 157 = .ok (.i2l, 1) := by decide +kernel
theorem dL_law_158 : decode cL_law 158 = .ok (.bipush 32, 2) := by decide +kernel
theorem dL_law_160 : decode cL_law 160 = .ok (.lshl, 1) := by decide +kernel
theorem dL_law_161 : decode cL_law 161 = .ok (.aload_n 0, 1) := by decide +kernel
theorem dL_law_162 : decode cL_law 162 = .ok (.iload 4, 2) := by decide +kernel
theorem dL_law_164 : decode cL_law 164 = .ok (.iconst 4, 1) := by decide +kernel
theorem dL_law_165 : decode cL_law 165 = .ok (.iadd, 1) := by decide +kernel
theorem dL_law_166 : decode cL_law 166 = .ok (.iaload, 1) := by decide +kernel
theorem dL_law_167 : decode cL_law 167 = .ok (.i2l, 1) := by decide +kernel
theorem dL_law_168 : decode cL_law 168 = .ok (.ldc2_w 23, 3) := by decide +kernel
theorem dL_law_171 : decode cL_law 171 = .ok (.land, 1) := by decide +kernel
theorem dL_law_172 : decode cL_law 172 = .ok (.lor, 1) := by decide +kernel
theorem dL_law_173 : decode cL_law 173 = .ok (.invokevirtual 29, 3) := by decide +kernel
theorem dL_law_176 : decode cL_law 176 = .ok (.if_icmp .eq 342, 3) := by decide +kernel
theorem dL_law_179 : decode cL_law 179 = .ok (.iconst 0, 1) := by decide +kernel
theorem dL_law_180 : decode cL_law 180 = .ok (.ireturn, 1) := by decide +kernel
theorem dL_law_181 : decode cL_law 181 = .ok (.aload_n 1, 1) := by decide +kernel
theorem dL_law_182 : decode cL_law 182 = .ok (.aload_n 0, 1) := by decide +kernel
theorem dL_law_183 : decode cL_law 183 = .ok (.iload 4, 2) := by decide +kernel
theorem dL_law_185 : decode cL_law 185 = .ok (.iconst 1, 1) := by decide +kernel
theorem dL_law_186 : decode cL_law 186 = .ok (.iadd, 1) := by decide +kernel
theorem dL_law_187 : decode cL_law 187 = .ok (.iaload, 1) := by decide +kernel
theorem dL_law_188 : decode cL_law 188 = .ok (.invokevirtual 30, 3) := by decide +kernel
theorem dL_law_191 : decode cL_law 191 = .ok (.aload_n 2, 1) := by decide +kernel
theorem dL_law_192 : decode cL_law 192 = .ok (.aload_n 0, 1) := by decide +kernel
theorem dL_law_193 : decode cL_law 193 = .ok (.iload 4, 2) := by decide +kernel
theorem dL_law_195 : decode cL_law 195 = .ok (.iconst 1, 1) := by decide +kernel
theorem dL_law_196 : decode cL_law 196 = .ok (.iadd, 1) := by decide +kernel
theorem dL_law_197 : decode cL_law 197 = .ok (.iaload, 1) := by decide +kernel
theorem dL_law_198 : decode cL_law 198 = .ok (.invokevirtual 34, 3) := by decide +kernel
theorem dL_law_201 : decode cL_law 201 = .ok (.if_icmp .eq 317, 3) := by decide +kernel
theorem dL_law_204 : decode cL_law 204 = .ok (.iconst 0, 1) := by decide +kernel
theorem dL_law_205 : decode cL_law 205 = .ok (.ireturn, 1) := by decide +kernel
theorem dL_law_206 : decode cL_law 206 = .ok (.aload_n 1, 1) := by decide +kernel
theorem dL_law_207 : decode cL_law 207 = .ok (.aload_n 0, 1) := by decide +kernel
theorem dL_law_208 : decode cL_law 208 = .ok (.iload 4, 2) := by decide +kernel
theorem dL_law_210 : decode cL_law 210 = .ok (.iconst 1, 1) := by decide +kernel
theorem dL_law_211 : decode cL_law 211 = .ok (.iadd, 1) := by decide +kernel
theorem dL_law_212 : decode cL_law 212 = .ok (.iaload, 1) := by decide +kernel
theorem dL_law_213 : decode cL_law 213 = .ok (.invokevirtual 35, 3) := by decide +kernel
theorem dL_law_216 : decode cL_law 216 = .ok (.aload_n 2, 1) := by decide +kernel
theorem dL_law_217 : decode cL_law 217 = .ok (.aload_n 0, 1) := by decide +kernel
theorem dL_law_218 : decode cL_law 218 = .ok (.iload 4, 2) := by decide +kernel
theorem dL_law_220 : decode cL_law 220 = .ok (.iconst 1, 1) := by decide +kernel
theorem dL_law_221 : decode cL_law 221 = .ok (.iadd, 1) := by decide +kernel
theorem dL_law_222 : decode cL_law 222 = .ok (.iaload, 1) := by decide +kernel
theorem dL_law_223 : decode cL_law 223 = .ok (.invokevirtual 39, 3) := by decide +kernel
theorem dL_law_226 : decode cL_law 226 = .ok (.if_icmp .eq 292, 3) := by decide +kernel
theorem dL_law_229 : decode cL_law 229 = .ok (.iconst 0, 1) := by decide +kernel
theorem dL_law_230 : decode cL_law 230 = .ok (.ireturn, 1) := by decide +kernel
theorem dL_law_231 : decode cL_law 231 = .ok (.aload_n 1, 1) := by decide +kernel
theorem dL_law_232 : decode cL_law 232 = .ok (.aload_n 0, 1) := by decide +kernel
theorem dL_law_233 : decode cL_law 233 = .ok (.iload 4, 2) := by decide +kernel
theorem dL_law_235 : decode cL_law 235 = .ok (.iconst 1, 1) := by decide +kernel
theorem dL_law_236 : decode cL_law 236 = .ok (.iadd, 1) := by decide +kernel
theorem dL_law_237 : decode cL_law 237 = .ok (.iaload, 1) := by decide +kernel
theorem dL_law_238 : decode cL_law 238 = .ok (.aload_n 0, 1) := by decide +kernel
theorem dL_law_239 : decode cL_law 239 = .ok (.iload 4, 2) := by decide +kernel
theorem dL_law_241 : decode cL_law 241 = .ok (.iconst 2, 1) := by decide +kernel
theorem dL_law_242 : decode cL_law 242 = .ok (.iadd, 1) := by decide +kernel
theorem dL_law_243 : decode cL_law 243 = .ok (.iaload, 1) := by decide +kernel
theorem dL_law_244 : decode cL_law 244 = .ok (.aload_n 3, 1) := by decide +kernel
theorem dL_law_245 : decode cL_law 245 = .ok (.invokestatic 40, 3) := by decide +kernel
theorem dL_law_248 : decode cL_law 248 = .ok (.istore 5, 2) := by decide +kernel
theorem dL_law_250 : decode cL_law 250 = .ok (.aload_n 2, 1) := by decide +kernel
theorem dL_law_251 : decode cL_law 251 = .ok (.aload_n 0, 1) := by decide +kernel
theorem dL_law_252 : decode cL_law 252 = .ok (.iload 4, 2) := by decide +kernel
theorem dL_law_254 : decode cL_law 254 = .ok (.iconst 1, 1) := by decide +kernel
theorem dL_law_255 : decode cL_law 255 = .ok (.iadd, 1) := by decide +kernel
theorem dL_law_256 : decode cL_law 256 = .ok (.iaload, 1) := by decide +kernel
theorem dL_law_257 : decode cL_law 257 = .ok (.aload_n 0, 1) := by decide +kernel
theorem dL_law_258 : decode cL_law 258 = .ok (.iload 4, 2) := by decide +kernel
theorem dL_law_260 : decode cL_law 260 = .ok (.iconst 2, 1) := by decide +kernel
theorem dL_law_261 : decode cL_law 261 = .ok (.iadd, 1) := by decide +kernel
theorem dL_law_262 : decode cL_law 262 = .ok (.iaload, 1) := by decide +kernel
theorem dL_law_263 : decode cL_law 263 = .ok (.invokevirtual 45, 3) := by decide +kernel
theorem dL_law_266 : decode cL_law 266 = .ok (.lstore 6, 2) := by decide +kernel
theorem dL_law_268 : decode cL_law 268 = .ok (.aload_n 2, 1) := by decide +kernel
theorem dL_law_269 : decode cL_law 269 = .ok (.invokevirtual 46, 3) := by decide +kernel
theorem dL_law_272 : decode cL_law 272 = .ok (.iload 5, 2) := by decide +kernel
theorem dL_law_274 : decode cL_law 274 = .ok (.if_icmp .eq 5, 3) := by decide +kernel
theorem dL_law_277 : decode cL_law 277 = .ok (.iconst 0, 1) := by decide +kernel
theorem dL_law_278 : decode cL_law 278 = .ok (.ireturn, 1) := by decide +kernel
theorem dL_law_279 : decode cL_law 279 = .ok (.iload 5, 2) := by decide +kernel
theorem dL_law_281 : decode cL_law 281 = .ok (.ifCond .ne 14, 3) := by decide +kernel
theorem dL_law_284 : decode cL_law 284 = .ok (.aload_n 3, 1) := by decide +kernel
theorem dL_law_285 : decode cL_law 285 = .ok (.iconst 0, 1) := by decide +kernel
theorem dL_law_286 : decode cL_law 286 = .ok (.laload, 1) := by decide +kernel
theorem dL_law_287 : decode cL_law 287 = .ok (.lload 6, 2) := by decide +kernel
theorem dL_law_289 : decode cL_law 289 = .ok (.lcmp, 1) := by decide +kernel
theorem dL_law_290 : decode cL_law 290 = .ok (.ifCond .eq 5, 3) := by decide +kernel
theorem dL_law_293 : decode cL_law 293 = .ok (.iconst 0, 1) := by decide +kernel
theorem dL_law_294 : decode cL_law 294 = .ok (.ireturn, 1) := by decide +kernel
theorem dL_law_295 : decode cL_law 295 = .ok (.goto 223, 3) := by decide +kernel
theorem dL_law_298 : decode cL_law 298 = .ok (.aload_n 1, 1) := by decide +kernel
theorem dL_law_299 : decode cL_law 299 = .ok (.aload_n 0, 1) := by decide +kernel
theorem dL_law_300 : decode cL_law 300 = .ok (.iload 4, 2) := by decide +kernel
theorem dL_law_302 : decode cL_law 302 = .ok (.iconst 1, 1) := by decide +kernel
theorem dL_law_303 : decode cL_law 303 = .ok (.iadd, 1) := by decide +kernel
theorem dL_law_304 : decode cL_law 304 = .ok (.iaload, 1) := by decide +kernel
theorem dL_law_305 : decode cL_law 305 = .ok (.aload_n 0, 1) := by decide +kernel
theorem dL_law_306 : decode cL_law 306 = .ok (.iload 4, 2) := by decide +kernel
theorem dL_law_308 : decode cL_law 308 = .ok (.iconst 2, 1) := by decide +kernel
theorem dL_law_309 : decode cL_law 309 = .ok (.iadd, 1) := by decide +kernel
theorem dL_law_310 : decode cL_law 310 = .ok (.iaload, 1) := by decide +kernel
theorem dL_law_311 : decode cL_law 311 = .ok (.invokevirtual 50, 3) := by decide +kernel
theorem dL_law_314 : decode cL_law 314 = .ok (.aload_n 2, 1) := by decide +kernel
theorem dL_law_315 : decode cL_law 315 = .ok (.aload_n 0, 1) := by decide +kernel
theorem dL_law_316 : decode cL_law 316 = .ok (.iload 4, 2) := by decide +kernel
theorem dL_law_318 : decode cL_law 318 = .ok (.iconst 1, 1) := by decide +kernel
theorem dL_law_319 : decode cL_law 319 = .ok (.iadd, 1) := by decide +kernel
theorem dL_law_320 : decode cL_law 320 = .ok (.iaload, 1) := by decide +kernel
theorem dL_law_321 : decode cL_law 321 = .ok (.aload_n 0, 1) := by decide +kernel
theorem dL_law_322 : decode cL_law 322 = .ok (.iload 4, 2) := by decide +kernel
theorem dL_law_324 : decode cL_law 324 = .ok (.iconst 2, 1) := by decide +kernel
theorem dL_law_325 : decode cL_law 325 = .ok (.iadd, 1) := by decide +kernel
theorem dL_law_326 : decode cL_law 326 = .ok (.iaload, 1) := by decide +kernel
theorem dL_law_327 : decode cL_law 327 = .ok (.invokevirtual 54, 3) := by decide +kernel
theorem dL_law_330 : decode cL_law 330 = .ok (.if_icmp .eq 188, 3) := by decide +kernel
theorem dL_law_333 : decode cL_law 333 = .ok (.iconst 0, 1) := by decide +kernel
theorem dL_law_334 : decode cL_law 334 = .ok (.ireturn, 1) := by decide +kernel
theorem dL_law_335 : decode cL_law 335 = .ok (.aload_n 1, 1) := by decide +kernel
theorem dL_law_336 : decode cL_law 336 = .ok (.aload_n 0, 1) := by decide +kernel
theorem dL_law_337 : decode cL_law 337 = .ok (.iload 4, 2) := by decide +kernel
theorem dL_law_339 : decode cL_law 339 = .ok (.iconst 1, 1) := by decide +kernel
theorem dL_law_340 : decode cL_law 340 = .ok (.iadd, 1) := by decide +kernel
theorem dL_law_341 : decode cL_law 341 = .ok (.iaload, 1) := by decide +kernel
theorem dL_law_342 : decode cL_law 342 = .ok (.aload_n 0, 1) := by decide +kernel
theorem dL_law_343 : decode cL_law 343 = .ok (.iload 4, 2) := by decide +kernel
theorem dL_law_345 : decode cL_law 345 = .ok (.iconst 2, 1) := by decide +kernel
theorem dL_law_346 : decode cL_law 346 = .ok (.iadd, 1) := by decide +kernel
theorem dL_law_347 : decode cL_law 347 = .ok (.iaload, 1) := by decide +kernel
theorem dL_law_348 : decode cL_law 348 = .ok (.invokevirtual 55, 3) := by decide +kernel
theorem dL_law_351 : decode cL_law 351 = .ok (.aload_n 2, 1) := by decide +kernel
theorem dL_law_352 : decode cL_law 352 = .ok (.aload_n 0, 1) := by decide +kernel
theorem dL_law_353 : decode cL_law 353 = .ok (.iload 4, 2) := by decide +kernel
theorem dL_law_355 : decode cL_law 355 = .ok (.iconst 1, 1) := by decide +kernel
theorem dL_law_356 : decode cL_law 356 = .ok (.iadd, 1) := by decide +kernel
theorem dL_law_357 : decode cL_law 357 = .ok (.iaload, 1) := by decide +kernel
theorem dL_law_358 : decode cL_law 358 = .ok (.aload_n 0, 1) := by decide +kernel
theorem dL_law_359 : decode cL_law 359 = .ok (.iload 4, 2) := by decide +kernel
theorem dL_law_361 : decode cL_law 361 = .ok (.iconst 2, 1) := by decide +kernel
theorem dL_law_362 : decode cL_law 362 = .ok (.iadd, 1) := by decide +kernel
theorem dL_law_363 : decode cL_law 363 = .ok (.iaload, 1) := by decide +kernel
theorem dL_law_364 : decode cL_law 364 = .ok (.invokevirtual 58, 3) := by decide +kernel
theorem dL_law_367 : decode cL_law 367 = .ok (.if_icmp .eq 151, 3) := by decide +kernel
theorem dL_law_370 : decode cL_law 370 = .ok (.iconst 0, 1) := by decide +kernel
theorem dL_law_371 : decode cL_law 371 = .ok (.ireturn, 1) := by decide +kernel
theorem dL_law_372 : decode cL_law 372 = .ok (.aload_n 1, 1) := by decide +kernel
theorem dL_law_373 : decode cL_law 373 = .ok (.invokevirtual 59, 3) := by decide +kernel
theorem dL_law_376 : decode cL_law 376 = .ok (.aload_n 2, 1) := by decide +kernel
theorem dL_law_377 : decode cL_law 377 = .ok (.invokevirtual 62, 3) := by decide +kernel
theorem dL_law_380 : decode cL_law 380 = .ok (.if_icmp .eq 138, 3) := by decide +kernel
theorem dL_law_383 : decode cL_law 383 = .ok (.iconst 0, 1) := by decide +kernel
theorem dL_law_384 : decode cL_law 384 = .ok (.ireturn, 1) := by decide +kernel
theorem dL_law_385 : decode cL_law 385 = .ok (.aload_n 1, 1) := by decide +kernel
theorem dL_law_386 : decode cL_law 386 = .ok (.aload_n 0, 1) := by decide +kernel
theorem dL_law_387 : decode cL_law 387 = .ok (.iload 4, 2) := by decide +kernel
theorem dL_law_389 : decode cL_law 389 = .ok (.iconst 1, 1) := by decide +kernel
theorem dL_law_390 : decode cL_law 390 = .ok (.iadd, 1) := by decide +kernel
theorem dL_law_391 : decode cL_law 391 = .ok (.iaload, 1) := by decide +kernel
theorem dL_law_392 : decode cL_law 392 = .ok (.invokevirtual 63, 3) := by decide +kernel
theorem dL_law_395 : decode cL_law 395 = .ok (.aload_n 2, 1) := by decide +kernel
theorem dL_law_396 : decode cL_law 396 = .ok (.aload_n 0, 1) := by decide +kernel
theorem dL_law_397 : decode cL_law 397 = .ok (.iload 4, 2) := by decide +kernel
theorem dL_law_399 : decode cL_law 399 = .ok (.iconst 1, 1) := by decide +kernel
theorem dL_law_400 : decode cL_law 400 = .ok (.iadd, 1) := by decide +kernel
theorem dL_law_401 : decode cL_law 401 = .ok (.iaload, 1) := by decide +kernel
theorem dL_law_402 : decode cL_law 402 = .ok (.invokevirtual 66, 3) := by decide +kernel
theorem dL_law_405 : decode cL_law 405 = .ok (.if_icmp .eq 113, 3) := by decide +kernel
theorem dL_law_408 : decode cL_law 408 = .ok (.iconst 0, 1) := by decide +kernel
theorem dL_law_409 : decode cL_law 409 = .ok (.ireturn, 1) := by decide +kernel
theorem dL_law_410 : decode cL_law 410 = .ok (.aload_n 1, 1) := by decide +kernel
theorem dL_law_411 : decode cL_law 411 = .ok (.invokevirtual 67, 3) := by decide +kernel
theorem dL_law_414 : decode cL_law 414 = .ok (.aload_n 2, 1) := by decide +kernel
theorem dL_law_415 : decode cL_law 415 = .ok (.invokevirtual 71, 3) := by decide +kernel
theorem dL_law_418 : decode cL_law 418 = .ok (.lcmp, 1) := by decide +kernel
theorem dL_law_419 : decode cL_law 419 = .ok (.ifCond .eq 99, 3) := by decide +kernel
theorem dL_law_422 : decode cL_law 422 = .ok (.iconst 0, 1) := by decide +kernel
theorem dL_law_423 : decode cL_law 423 = .ok (.ireturn, 1) := by decide +kernel
theorem dL_law_424 : decode cL_law 424 = .ok (.aload_n 1, 1) := by decide +kernel
theorem dL_law_425 : decode cL_law 425 = .ok (.aload_n 0, 1) := by decide +kernel
theorem dL_law_426 : decode cL_law 426 = .ok (.iload 4, 2) := by decide +kernel
theorem dL_law_428 : decode cL_law 428 = .ok (.iconst 1, 1) := by decide +kernel
theorem dL_law_429 : decode cL_law 429 = .ok (.iadd, 1) := by decide +kernel
theorem dL_law_430 : decode cL_law 430 = .ok (.iaload, 1) := by decide +kernel
theorem dL_law_431 : decode cL_law 431 = .ok (.aload_n 3, 1) := by decide +kernel
theorem dL_law_432 : decode cL_law 432 = .ok (.invokestatic 72, 3) := by decide +kernel
theorem dL_law_435 : decode cL_law 435 = .ok (.istore 5, 2) := by decide +kernel
theorem dL_law_437 : decode cL_law 437 = .ok (.aload_n 2, 1) := by decide +kernel
theorem dL_law_438 : decode cL_law 438 = .ok (.aload_n 0, 1) := by decide +kernel
theorem dL_law_439 : decode cL_law 439 = .ok (.iload 4, 2) := by decide +kernel
theorem dL_law_441 : decode cL_law 441 = .ok (.iconst 1, 1) := by decide +kernel
theorem dL_law_442 : decode cL_law 442 = .ok (.iadd, 1) := by decide +kernel
theorem dL_law_443 : decode cL_law 443 = .ok (.iaload, 1) := by decide +kernel
theorem dL_law_444 : decode cL_law 444 = .ok (.invokevirtual 75, 3) := by decide +kernel
theorem dL_law_447 : decode cL_law 447 = .ok (.lstore 6, 2) := by decide +kernel
theorem dL_law_449 : decode cL_law 449 = .ok (.aload_n 2, 1) := by decide +kernel
theorem dL_law_450 : decode cL_law 450 = .ok (.invokevirtual 46, 3) := by decide +kernel
theorem dL_law_453 : decode cL_law 453 = .ok (.iload 5, 2) := by decide +kernel
theorem dL_law_455 : decode cL_law 455 = .ok (.if_icmp .eq 5, 3) := by decide +kernel
theorem dL_law_458 : decode cL_law 458 = .ok (.iconst 0, 1) := by decide +kernel
theorem dL_law_459 : decode cL_law 459 = .ok (.ireturn, 1) := by decide +kernel
theorem dL_law_460 : decode cL_law 460 = .ok (.iload 5, 2) := by decide +kernel
theorem dL_law_462 : decode cL_law 462 = .ok (.ifCond .ne 14, 3) := by decide +kernel
theorem dL_law_465 : decode cL_law 465 = .ok (.aload_n 3, 1) := by decide +kernel
theorem dL_law_466 : decode cL_law 466 = .ok (.iconst 0, 1) := by decide +kernel
theorem dL_law_467 : decode cL_law 467 = .ok (.laload, 1) := by decide +kernel
theorem dL_law_468 : decode cL_law 468 = .ok (.lload 6, 2) := by decide +kernel
theorem dL_law_470 : decode cL_law 470 = .ok (.lcmp, 1) := by decide +kernel
theorem dL_law_471 : decode cL_law 471 = .ok (.ifCond .eq 5, 3) := by decide +kernel
theorem dL_law_474 : decode cL_law 474 = .ok (.iconst 0, 1) := by decide +kernel
theorem dL_law_475 : decode cL_law 475 = .ok (.ireturn, 1) := by decide +kernel
theorem dL_law_476 : decode cL_law 476 = .ok (.goto 42, 3) := by decide +kernel
theorem dL_law_479 : decode cL_law 479 = .ok (.aload_n 1, 1) := by decide +kernel
theorem dL_law_480 : decode cL_law 480 = .ok (.aload_n 0, 1) := by decide +kernel
theorem dL_law_481 : decode cL_law 481 = .ok (.iload 4, 2) := by decide +kernel
theorem dL_law_483 : decode cL_law 483 = .ok (.iconst 1, 1) := by decide +kernel
theorem dL_law_484 : decode cL_law 484 = .ok (.iadd, 1) := by decide +kernel
theorem dL_law_485 : decode cL_law 485 = .ok (.iaload, 1) := by decide +kernel
theorem dL_law_486 : decode cL_law 486 = .ok (.invokevirtual 76, 3) := by decide +kernel
theorem dL_law_489 : decode cL_law 489 = .ok (.aload_n 2, 1) := by decide +kernel
theorem dL_law_490 : decode cL_law 490 = .ok (.aload_n 0, 1) := by decide +kernel
theorem dL_law_491 : decode cL_law 491 = .ok (.iload 4, 2) := by decide +kernel
theorem dL_law_493 : decode cL_law 493 = .ok (.iconst 1, 1) := by decide +kernel
theorem dL_law_494 : decode cL_law 494 = .ok (.iadd, 1) := by decide +kernel
theorem dL_law_495 : decode cL_law 495 = .ok (.iaload, 1) := by decide +kernel
theorem dL_law_496 : decode cL_law 496 = .ok (.invokevirtual 79, 3) := by decide +kernel
theorem dL_law_499 : decode cL_law 499 = .ok (.lcmp, 1) := by decide +kernel
theorem dL_law_500 : decode cL_law 500 = .ok (.ifCond .eq 18, 3) := by decide +kernel
theorem dL_law_503 : decode cL_law 503 = .ok (.iconst 0, 1) := by decide +kernel
theorem dL_law_504 : decode cL_law 504 = .ok (.ireturn, 1) := by decide +kernel
theorem dL_law_505 : decode cL_law 505 = .ok (.aload_n 1, 1) := by decide +kernel
theorem dL_law_506 : decode cL_law 506 = .ok (.invokevirtual 80, 3) := by decide +kernel
theorem dL_law_509 : decode cL_law 509 = .ok (.aload_n 2, 1) := by decide +kernel
theorem dL_law_510 : decode cL_law 510 = .ok (.invokevirtual 83, 3) := by decide +kernel
theorem dL_law_513 : decode cL_law 513 = .ok (.if_icmp .eq 5, 3) := by decide +kernel
theorem dL_law_516 : decode cL_law 516 = .ok (.iconst 0, 1) := by decide +kernel
theorem dL_law_517 : decode cL_law 517 = .ok (.ireturn, 1) := by decide +kernel
theorem dL_law_518 : decode cL_law 518 = .ok (.iinc 4 5, 3) := by decide +kernel
theorem dL_law_521 : decode cL_law 521 = .ok (.goto (-498), 3) := by decide +kernel
theorem dL_law_524 : decode cL_law 524 = .ok (.iconst 1, 1) := by decide +kernel
theorem dL_law_525 : decode cL_law 525 = .ok (.ireturn, 1) := by decide +kernel
end
section
/-! WALKS: pure. E p q c: an edge from p to q of length c. -/
/-- a walk of n steps from i to j, of length L -/
def tn_wk (E : Nat → Nat → Int → Prop) : Nat → Nat → Nat → Int → Prop
  | 0, i, j, L => i = j ∧ L = 0
  | n + 1, i, j, L => ∃ (q : Nat) (c : Int), E i q c ∧ tn_wk E n q j (L - c)
/-- no walk from a point to itself is below 0 -/
def tn_ok (E : Nat → Nat → Int → Prop) : Prop := ∀ (n i : Nat) (L : Int), tn_wk E n i i L → 0 ≤ L
def tn_le (L : Int) (n : Nat) (M : Int) (m : Nat) : Prop := L < M ∨ (L = M ∧ n ≤ m)
/-- L, n: length and steps of the best walk from i to j -/
def tn_best (E : Nat → Nat → Int → Prop) (i j : Nat) (L : Int) (n : Nat) : Prop := tn_wk E n i j L ∧ ∀ (m : Nat) (M : Int), tn_wk E m i j M → tn_le L n M m
theorem tn_le_trans {L M K : Int} {n m k : Nat} (h : tn_le L n M m) (g : tn_le M m K k) : tn_le L n K k := by
  unfold tn_le at *; omega
theorem tn_best_eq {E : Nat → Nat → Int → Prop} {i j : Nat} {L M : Int} {n m : Nat} (h : tn_best E i j L n) (g : tn_best E i j M m) : L = M ∧ n = m := by
  have a := h.2 _ _ g.1
  have b := g.2 _ _ h.1
  unfold tn_le at a b; omega
theorem tn_wk_cat {E : Nat → Nat → Int → Prop} : ∀ (n : Nat) {m i j k : Nat} {L M : Int}, tn_wk E n i j L → tn_wk E m j k M → tn_wk E (n + m) i k (L + M) := by
  intro n
  induction n with
  | zero =>
    intro m i j k L M h g
    obtain ⟨rfl, rfl⟩ := h
    rw [Nat.zero_add, Int.zero_add]; exact g
  | succ n ih =>
    intro m i j k L M h g
    obtain ⟨q, c, he, h⟩ := h
    rw [show n + 1 + m = (n + m) + 1 by omega]
    refine ⟨q, c, he, ?_⟩
    rw [show L + M - c = (L - c) + M by omega]
    exact ih h g
theorem tn_wk_mono {E F : Nat → Nat → Int → Prop} (hE : ∀ a b d, E a b d → F a b d) : ∀ (n : Nat) {i j : Nat} {L : Int}, tn_wk E n i j L → tn_wk F n i j L := by
  intro n
  induction n with
  | zero => intro i j L h; exact h
  | succ n ih =>
    intro i j L h
    obtain ⟨q, c, he, h⟩ := h
    exact ⟨q, c, hE _ _ _ he, ih h⟩
theorem tn_ok_mono {E F : Nat → Nat → Int → Prop} (hE : ∀ a b d, E a b d → F a b d) (h : tn_ok F) : tn_ok E := fun n i L w => h n i L (tn_wk_mono hE n w)
theorem tn_wk_one {E : Nat → Nat → Int → Prop} {i j : Nat} {c : Int} (h : E i j c) : tn_wk E 1 i j c := ⟨j, c, h, rfl, by omega⟩
theorem tn_wk_cons {E : Nat → Nat → Int → Prop} {n i q j : Nat} {c L : Int} (h : E i q c) (w : tn_wk E n q j L) : tn_wk E (n + 1) i j (c + L) := ⟨q, c, h, by rw [show c + L - c = L by omega]; exact w⟩
/-- the length is bounded by the steps -/
theorem tn_wk_bd {E : Nat → Nat → Int → Prop} {B : Int} (hE : ∀ i j c, E i j c → -B ≤ c ∧ c ≤ B) : ∀ (n : Nat) {i j : Nat} {L : Int}, tn_wk E n i j L → -(n * B) ≤ L ∧ L ≤ n * B := by
  intro n
  induction n with
  | zero => intro i j L h; obtain ⟨-, rfl⟩ := h; constructor <;> simp
  | succ n ih =>
    intro i j L h
    obtain ⟨q, c, he, h⟩ := h
    have h1 := ih h
    have h2 := hE _ _ _ he
    have h3 : ((n + 1 : Nat) : Int) * B = n * B + B := by
      rw [Int.natCast_add, Int.add_mul]; simp
    rw [h3]; omega
/-- pigeons -/
theorem tn_pig : ∀ (N : Nat) (f : Nat → Nat), (∀ a, a ≤ N → f a < N) → ∃ a b, a < b ∧ b ≤ N ∧ f a = f b := by
  intro N
  induction N with
  | zero => intro f h; exact absurd (h 0 (Nat.le_refl 0)) (by omega)
  | succ N ih =>
    intro f h
    rcases Classical.em (∃ a, a ≤ N ∧ f a = f (N + 1)) with ⟨a, h1, h2⟩ | hno
    · exact ⟨a, N + 1, by omega, Nat.le_refl _, h2⟩
    · have hno' : ∀ a, a ≤ N → f a ≠ f (N + 1) := fun a h1 h2 => hno ⟨a, h1, h2⟩
      obtain ⟨a, b, h1, h2, h3⟩ := ih (fun a => if f a = N then f (N + 1) else f a) (by
        intro a ha
        have h4 := h a (by omega)
        have h5 := h (N + 1) (Nat.le_refl _)
        have h6 := hno' a ha
        show (if f a = N then f (N + 1) else f a) < N
        split <;> omega)
      refine ⟨a, b, h1, by omega, ?_⟩
      have h4 := hno' a (by omega)
      have h5 := hno' b (by omega)
      try dsimp only at h3
      by_cases ha : f a = N <;> by_cases hb : f b = N <;> simp only [ha, hb, if_true, if_false] at h3 <;> omega
def tn_seg (c : Nat → Int) : Nat → Nat → Int
  | _, 0 => 0
  | a, n + 1 => c a + tn_seg c (a + 1) n
theorem tn_seg_add (c : Nat → Int) : ∀ (n a m : Nat), tn_seg c a (n + m) = tn_seg c a n + tn_seg c (a + n) m := by
  intro n
  induction n with
  | zero => intro a m; simp [tn_seg]
  | succ n ih =>
    intro a m
    rw [show n + 1 + m = (n + m) + 1 by omega]
    simp only [tn_seg]
    rw [ih, show a + 1 + n = a + (n + 1) by omega]; omega
theorem tn_seg_wk {E : Nat → Nat → Int → Prop} {f : Nat → Nat} {c : Nat → Int} : ∀ (n a : Nat), (∀ k, a ≤ k → k < a + n → E (f k) (f (k + 1)) (c k)) → tn_wk E n (f a) (f (a + n)) (tn_seg c a n) := by
  intro n
  induction n with
  | zero => intro a _; exact ⟨rfl, rfl⟩
  | succ n ih =>
    intro a h
    refine ⟨f (a + 1), c a, h a (Nat.le_refl a) (by omega), ?_⟩
    have h1 := ih (a + 1) (fun k h1 h2 => h k (by omega) (by omega))
    rw [show a + (n + 1) = a + 1 + n by omega]
    simp only [tn_seg]
    rw [show c a + tn_seg c (a + 1) n - c a = tn_seg c (a + 1) n by omega]
    exact h1
theorem tn_seg_shift (c c' : Nat → Int) : ∀ (n a b : Nat), (∀ k, k < n → c (a + k) = c' (b + k)) → tn_seg c a n = tn_seg c' b n := by
  intro n
  induction n with
  | zero => intro a b _; rfl
  | succ n ih =>
    intro a b h
    simp only [tn_seg]
    rw [ih (a + 1) (b + 1) (fun k hk => by rw [show a + 1 + k = a + (k + 1) by omega, show b + 1 + k = b + (k + 1) by omega]; exact h (k + 1) (by omega))]
    have := h 0 (by omega)
    simp only [Nat.add_zero] at this
    rw [this]
theorem tn_wk_fun {E : Nat → Nat → Int → Prop} : ∀ (n i j : Nat) (L : Int), tn_wk E n i j L → ∃ (f : Nat → Nat) (c : Nat → Int), f 0 = i ∧ f n = j ∧ (∀ a, a < n → E (f a) (f (a + 1)) (c a)) ∧ L = tn_seg c 0 n := by
  intro n
  induction n with
  | zero => intro i j L h; obtain ⟨rfl, rfl⟩ := h; exact ⟨fun _ => i, fun _ => 0, rfl, rfl, fun a ha => absurd ha (by omega), rfl⟩
  | succ n ih =>
    intro i j L h
    obtain ⟨q, d, he, h⟩ := h
    obtain ⟨f, c, h0, hn, hs, hL⟩ := ih q j _ h
    refine ⟨fun k => if k = 0 then i else f (k - 1), fun k => if k = 0 then d else c (k - 1), rfl, ?_, ?_, ?_⟩
    · simp [hn]
    · intro a ha
      rcases Nat.eq_zero_or_pos a with rfl | hp
      · simp [h0, he]
      · have h1 := hs (a - 1) (by omega)
        rw [show a - 1 + 1 = a by omega] at h1
        simp only [Nat.add_eq_zero_iff, Nat.succ_ne_self, and_false, if_false, Nat.add_sub_cancel]
        simpa [show ¬ a = 0 by omega] using h1
    · have h2 := tn_seg_shift (fun k => if k = 0 then d else c (k - 1)) c n 1 0 (fun k _ => by simp [show ¬ 1 + k = 0 by omega])
      show L = (if 0 = 0 then d else c (0 - 1)) + tn_seg (fun k => if k = 0 then d else c (k - 1)) (0 + 1) n
      rw [Nat.zero_add, h2, if_pos rfl]; omega
/-- what has no cycle below 0 has short walks as good -/
theorem tn_cut {E : Nat → Nat → Int → Prop} (hE : ∀ i j c, E i j c → i < 20 ∧ j < 20) (ok : tn_ok E) : ∀ (n i j : Nat) (L : Int), tn_wk E n i j L → ∃ (n' : Nat) (L' : Int), n' ≤ 19 ∧ n' ≤ n ∧ L' ≤ L ∧ tn_wk E n' i j L' := by
  intro n
  induction n using Nat.strongRecOn with
  | _ n ih =>
    intro i j L h
    rcases Nat.lt_or_ge n 20 with hn | hn
    · exact ⟨n, L, by omega, Nat.le_refl n, Int.le_refl L, h⟩
    · obtain ⟨f, c, h0, hnj, hs, hL⟩ := tn_wk_fun n i j L h
      have hf : ∀ a, a ≤ 20 → f a < 20 := by
        intro a ha
        rcases Nat.lt_or_ge a n with h1 | h1
        · exact (hE _ _ _ (hs a h1)).1
        · have h2 := (hE _ _ _ (hs (a - 1) (by omega))).2
          rw [show a - 1 + 1 = a by omega] at h2; exact h2
      obtain ⟨a, b, hab, hb, hfab⟩ := tn_pig 20 f hf
      have w1 := tn_seg_wk (E := E) (f := f) (c := c) a 0 (fun k _ h2 => hs k (by omega))
      have w2 := tn_seg_wk (E := E) (f := f) (c := c) (b - a) a (fun k _ h2 => hs k (by omega))
      have w3 := tn_seg_wk (E := E) (f := f) (c := c) (n - b) b (fun k _ h2 => hs k (by omega))
      rw [Nat.zero_add, h0] at w1
      rw [show a + (b - a) = b by omega, ← hfab] at w2
      rw [show b + (n - b) = n by omega, hnj, ← hfab] at w3
      have e1 := tn_seg_add c a 0 (n - a)
      have e2 := tn_seg_add c (b - a) a (n - b)
      rw [show a + (n - a) = n by omega, Nat.zero_add] at e1
      rw [show b - a + (n - b) = n - a by omega, show a + (b - a) = b by omega] at e2
      have hc := ok _ _ _ w2
      obtain ⟨n', L', k1, k2, k3, k4⟩ := ih (a + (n - b)) (by omega) i j _ (tn_wk_cat a w1 w3)
      exact ⟨n', L', k1, by omega, by omega, k4⟩
theorem tn_best_small {E : Nat → Nat → Int → Prop} (hE : ∀ i j c, E i j c → i < 20 ∧ j < 20) (ok : tn_ok E) {i j n : Nat} {L : Int} (h : tn_best E i j L n) : n ≤ 19 := by
  obtain ⟨n', L', k1, k2, k3, k4⟩ := tn_cut hE ok n i j L h.1
  have := h.2 _ _ k4
  unfold tn_le at this; omega
/-- one edge more -/
theorem tn_more {E : Nat → Nat → Int → Prop} {i j : Nat} {c : Int} (h : ∀ n L, tn_wk E n j i L → 0 ≤ L + c) :
    ∀ (n u v : Nat) (L : Int), tn_wk (fun a b d => E a b d ∨ (a = i ∧ b = j ∧ d = c)) n u v L →
      (∃ m M, tn_wk E m u v M ∧ M ≤ L) ∨ (∃ m1 M1 m2 M2, tn_wk E m1 u i M1 ∧ tn_wk E m2 j v M2 ∧ M1 + c + M2 ≤ L) := by
  intro n
  induction n with
  | zero => intro u v L w; exact Or.inl ⟨0, L, w, Int.le_refl L⟩
  | succ n ih =>
    intro u v L w
    obtain ⟨q, d, he, w⟩ := w
    rcases ih q v _ w with ⟨m, M, w1, h1⟩ | ⟨m1, M1, m2, M2, w1, w2, h1⟩
    · rcases he with he | ⟨rfl, rfl, rfl⟩
      · exact Or.inl ⟨m + 1, d + M, tn_wk_cons he w1, by omega⟩
      · exact Or.inr ⟨0, 0, m, M, ⟨rfl, rfl⟩, w1, by omega⟩
    · rcases he with he | ⟨rfl, rfl, rfl⟩
      · exact Or.inr ⟨m1 + 1, d + M1, m2, M2, tn_wk_cons he w1, w2, by omega⟩
      · have := h _ _ w1
        exact Or.inr ⟨0, 0, m2, M2, ⟨rfl, rfl⟩, w2, by omega⟩
theorem tn_add_ok {E : Nat → Nat → Int → Prop} {i j : Nat} {c : Int} (ok : tn_ok E) (h : ∀ n L, tn_wk E n j i L → 0 ≤ L + c) : tn_ok (fun a b d => E a b d ∨ (a = i ∧ b = j ∧ d = c)) := by
  intro n u L w
  rcases tn_more h n u u L w with ⟨m, M, w1, h1⟩ | ⟨m1, M1, m2, M2, w1, w2, h1⟩
  · have := ok _ _ _ w1; omega
  · have := h _ _ (tn_wk_cat m2 w2 w1); omega
end
section
/-! THE MEASURING OF THE CLASS: its arrays as functions, and what they hold at the end -/
abbrev tn_MX : Int64 := 9223372036854775807
abbrev tn_D : Type := (Nat → Int64) × (Nat → Int32)
/-- the edges that are on -/
def tn_E (cnt : Nat) (fp sp : Nat → Nat) (mo : Nat → Int64) (on : Nat → Bool) : Nat → Nat → Int → Prop := fun i j c => ∃ k, k < cnt ∧ on k = true ∧ fp k = i ∧ sp k = j ∧ (mo k).toInt = c
def tn_good (cnt : Nat) (fp sp : Nat → Nat) (mo : Nat → Int64) : Prop := cnt ≤ 120 ∧ ∀ k, k < cnt → fp k < 20 ∧ sp k < 20 ∧ -1000000000000 ≤ (mo k).toInt ∧ (mo k).toInt ≤ 1000000000000
abbrev tn_imp (fp sp : Nat → Nat) (mo : Nat → Int64) (k : Nat) (d : tn_D) : Prop :=
  d.1 (sp k) ≠ tn_MX ∧ (mo k + d.1 (sp k) < d.1 (fp k) ∨ (mo k + d.1 (sp k) = d.1 (fp k) ∧ d.2 (sp k) + 1 < d.2 (fp k)))
def tn_stp (fp sp : Nat → Nat) (mo : Nat → Int64) (k : Nat) (d : tn_D) : tn_D := (vp_updL d.1 (fp k) (mo k + d.1 (sp k)), upd d.2 (fp k) (d.2 (sp k) + 1))
/-- a round, as far as constraint k -/
def tn_rnd (fp sp : Nat → Nat) (mo : Nat → Int64) (on : Nat → Bool) (d : tn_D) : Nat → tn_D × Bool
  | 0 => (d, false)
  | k + 1 => if on k = true ∧ tn_imp fp sp mo k (tn_rnd fp sp mo on d k).1 then (tn_stp fp sp mo k (tn_rnd fp sp mo on d k).1, true) else tn_rnd fp sp mo on d k
/-- at most r rounds -/
def tn_lop (cnt : Nat) (fp sp : Nat → Nat) (mo : Nat → Int64) (on : Nat → Bool) : Nat → tn_D → tn_D
  | 0, d => d
  | r + 1, d => if (tn_rnd fp sp mo on d cnt).2 = true then tn_lop cnt fp sp mo on r (tn_rnd fp sp mo on d cnt).1 else (tn_rnd fp sp mo on d cnt).1
def tn_d0 (lf : Nat → Int64) (sf : Nat → Int32) (t : Nat) : tn_D := (vp_updL (fun p => if p < 20 then tn_MX else lf p) t 0, upd (fun p => if p < 20 then -1 else sf p) t 0)
theorem tn_addI {a b : Int64} (h1 : -4000000000000000 ≤ a.toInt) (h2 : a.toInt ≤ 4000000000000000) (h3 : -4000000000000000 ≤ b.toInt) (h4 : b.toInt ≤ 4000000000000000) : (a + b).toInt = a.toInt + b.toInt := by
  rw [Int64.toInt_add]
  exact Int.bmod_eq_of_le (by omega) (by omega)
theorem tn_subI {a b : Int64} (h1 : -4000000000000000 ≤ a.toInt) (h2 : a.toInt ≤ 4000000000000000) (h3 : -4000000000000000 ≤ b.toInt) (h4 : b.toInt ≤ 4000000000000000) : (a - b).toInt = a.toInt - b.toInt := by
  rw [Int64.toInt_sub]
  exact Int.bmod_eq_of_le (by omega) (by omega)
theorem tn_MXI : tn_MX.toInt = 9223372036854775807 := by decide
theorem tn_neMX {a : Int64} (h : a.toInt ≤ 8000000000000000) : a ≠ tn_MX := by
  intro e
  rw [e, tn_MXI] at h; omega
theorem tn_E_in {cnt : Nat} {fp sp : Nat → Nat} {mo : Nat → Int64} {on : Nat → Bool} (g : tn_good cnt fp sp mo) : ∀ i j c, tn_E cnt fp sp mo on i j c → i < 20 ∧ j < 20 := by
  rintro i j c ⟨k, hk, -, rfl, rfl, -⟩
  exact ⟨(g.2 k hk).1, (g.2 k hk).2.1⟩
theorem tn_E_bd {cnt : Nat} {fp sp : Nat → Nat} {mo : Nat → Int64} {on : Nat → Bool} (g : tn_good cnt fp sp mo) : ∀ i j c, tn_E cnt fp sp mo on i j c → -1000000000000 ≤ c ∧ c ≤ 1000000000000 := by
  rintro i j c ⟨k, hk, -, -, -, rfl⟩
  exact (g.2 k hk).2.2
def tn_snd (E : Nat → Nat → Int → Prop) (t T : Nat) (d : tn_D) : Prop := ∀ p, p < 20 → d.1 p ≠ tn_MX → ∃ n, n ≤ T ∧ d.2 p = nI n ∧ tn_wk E n p t (d.1 p).toInt
def tn_ub (d : tn_D) (p : Nat) (M : Int) (m : Nat) : Prop := d.1 p ≠ tn_MX ∧ ∃ n, n ≤ 4000 ∧ d.2 p = nI n ∧ tn_le (d.1 p).toInt n M m
theorem tn_snd_bd {E : Nat → Nat → Int → Prop} {t T : Nat} {d : tn_D} (hE : ∀ i j c, E i j c → -1000000000000 ≤ c ∧ c ≤ 1000000000000) (hT : T ≤ 3000) (h : tn_snd E t T d) {p : Nat} (hp : p < 20) (hm : d.1 p ≠ tn_MX) : -3000000000000000 ≤ (d.1 p).toInt ∧ (d.1 p).toInt ≤ 3000000000000000 := by
  obtain ⟨n, h1, -, w⟩ := h p hp hm
  have := tn_wk_bd hE n w
  omega
/-- one constraint -/
theorem tn_one {cnt : Nat} {fp sp : Nat → Nat} {mo : Nat → Int64} {on : Nat → Bool} {t T k : Nat} {d : tn_D} (g : tn_good cnt fp sp mo) (hk : k < cnt) (hon : on k = true) (hT : T ≤ 2900) (hs : tn_snd (tn_E cnt fp sp mo on) t T d) (d' : tn_D) (hd : d' = if tn_imp fp sp mo k d then tn_stp fp sp mo k d else d) :
    tn_snd (tn_E cnt fp sp mo on) t (T + 1) d' ∧ (∀ p M m, tn_ub d p M m → tn_ub d' p M m) ∧ (∀ M m, tn_ub d (sp k) M m → tn_ub d' (fp k) ((mo k).toInt + M) (m + 1)) := by
  have hg := g.2 k hk
  have hbd : ∀ p, p < 20 → d.1 p ≠ tn_MX → -3000000000000000 ≤ (d.1 p).toInt ∧ (d.1 p).toInt ≤ 3000000000000000 := fun p hp hm => tn_snd_bd (tn_E_bd g) (by omega) hs hp hm
  have hnew : d.1 (sp k) ≠ tn_MX → (mo k + d.1 (sp k)).toInt = (mo k).toInt + (d.1 (sp k)).toInt := fun hm => by
    have := hbd _ hg.2.1 hm
    exact tn_addI (by omega) (by omega) (by omega) (by omega)
  have hnewM : d.1 (sp k) ≠ tn_MX → mo k + d.1 (sp k) ≠ tn_MX := fun hm => by
    have h1 := hnew hm
    have := hbd _ hg.2.1 hm
    exact tn_neMX (by omega)
  by_cases hi : tn_imp fp sp mo k d
  · rw [if_pos hi] at hd
    obtain ⟨hq, hb⟩ := hi
    obtain ⟨n, hn, hsn, w⟩ := hs _ hg.2.1 hq
    have e1 : d'.1 (fp k) = mo k + d.1 (sp k) := by rw [hd]; exact pk_uLs
    have e2 : d'.2 (fp k) = nI (n + 1) := by rw [hd]; show upd d.2 (fp k) (d.2 (sp k) + 1) (fp k) = _; rw [pk_us, hsn, nI_1]
    have e3 : ∀ p, p ≠ fp k → d'.1 p = d.1 p ∧ d'.2 p = d.2 p := fun p hp => by rw [hd]; exact ⟨pk_uLn hp, pk_un hp⟩
    refine ⟨?_, ?_, ?_⟩
    · intro p hp hm
      by_cases he : p = fp k
      · subst he
        refine ⟨n + 1, by omega, e2, ?_⟩
        rw [e1, hnew hq]
        exact tn_wk_cons ⟨k, hk, hon, rfl, rfl, rfl⟩ w
      · rw [(e3 p he).1] at hm ⊢
        rw [(e3 p he).2]
        obtain ⟨n', h1, h2, h3⟩ := hs p hp hm
        exact ⟨n', by omega, h2, h3⟩
    · intro p M m ⟨hm, n', h1, h2, h3⟩
      by_cases he : p = fp k
      · subst he
        refine ⟨by rw [e1]; exact hnewM hq, n + 1, by omega, e2, ?_⟩
        rw [e1]
        rcases hb with hb | ⟨hb, hc⟩
        · have := Int64.lt_iff_toInt_lt.mp hb
          unfold tn_le at h3 ⊢; omega
        · rw [hsn, h2, nI_1, nI_ltI (by omega) (by omega)] at hc
          rw [hb]; unfold tn_le at h3 ⊢; omega
      · refine ⟨by rw [(e3 p he).1]; exact hm, n', h1, by rw [(e3 p he).2]; exact h2, ?_⟩
        rw [(e3 p he).1]; exact h3
    · intro M m ⟨hm, n', h1, h2, h3⟩
      refine ⟨by rw [e1]; exact hnewM hq, n + 1, by omega, e2, ?_⟩
      have : n = n' := (nI_eq (by omega) (by omega)).mp (hsn.symm.trans h2)
      subst this
      rw [e1, hnew hq]
      unfold tn_le at h3 ⊢; omega
  · rw [if_neg hi] at hd
    subst hd
    refine ⟨fun p hp hm => ?_, fun p M m h => h, ?_⟩
    · obtain ⟨n', h1, h2, h3⟩ := hs p hp hm
      exact ⟨n', by omega, h2, h3⟩
    · intro M m ⟨hq, n', h1, h2, h3⟩
      have ha : ¬ mo k + d'.1 (sp k) < d'.1 (fp k) := fun h => hi ⟨hq, Or.inl h⟩
      have hb : mo k + d'.1 (sp k) = d'.1 (fp k) → ¬ d'.2 (sp k) + 1 < d'.2 (fp k) := fun h h' => hi ⟨hq, Or.inr ⟨h, h'⟩⟩
      rw [Int64.lt_iff_toInt_lt, hnew hq] at ha
      have hbq := hbd _ hg.2.1 hq
      have hp : d'.1 (fp k) ≠ tn_MX := by
        intro e
        rw [e, tn_MXI] at ha; omega
      obtain ⟨np, k1, k2, k3⟩ := hs _ hg.1 hp
      refine ⟨hp, np, by omega, k2, ?_⟩
      rcases Int.lt_or_le (d'.1 (fp k)).toInt ((mo k).toInt + (d'.1 (sp k)).toInt) with hl | hl
      · unfold tn_le at h3 ⊢; omega
      · have he : mo k + d'.1 (sp k) = d'.1 (fp k) := Int64.toInt_inj.mp (by rw [hnew hq]; omega)
        have h4 := hb he
        rw [h2, k2, nI_1, nI_ltI (by omega) (by omega)] at h4
        unfold tn_le at h3 ⊢; omega
/-- a round -/
theorem tn_rnd_ok {cnt : Nat} {fp sp : Nat → Nat} {mo : Nat → Int64} {on : Nat → Bool} {t T : Nat} {d : tn_D} (g : tn_good cnt fp sp mo) (hT : T + cnt ≤ 2900) (hs : tn_snd (tn_E cnt fp sp mo on) t T d) : ∀ k, k ≤ cnt →
    tn_snd (tn_E cnt fp sp mo on) t (T + k) (tn_rnd fp sp mo on d k).1 ∧ (∀ p M m, tn_ub d p M m → tn_ub (tn_rnd fp sp mo on d k).1 p M m) ∧
    (∀ j, j < k → on j = true → ∀ M m, tn_ub d (sp j) M m → tn_ub (tn_rnd fp sp mo on d k).1 (fp j) ((mo j).toInt + M) (m + 1)) ∧ ((tn_rnd fp sp mo on d k).2 = false → (tn_rnd fp sp mo on d k).1 = d) := by
  intro k
  induction k with
  | zero => intro _; exact ⟨hs, fun _ _ _ h => h, fun j hj => absurd hj (by omega), fun _ => rfl⟩
  | succ k ih =>
    intro hk
    obtain ⟨i1, i2, i3, i4⟩ := ih (by omega)
    by_cases hon : on k = true
    · have e1 : (tn_rnd fp sp mo on d (k + 1)).1 = if tn_imp fp sp mo k (tn_rnd fp sp mo on d k).1 then tn_stp fp sp mo k (tn_rnd fp sp mo on d k).1 else (tn_rnd fp sp mo on d k).1 := by
        rw [tn_rnd]
        by_cases hi : tn_imp fp sp mo k (tn_rnd fp sp mo on d k).1
        · rw [if_pos ⟨hon, hi⟩, if_pos hi]
        · rw [if_neg (fun h => hi h.2), if_neg hi]
      obtain ⟨j1, j2, j3⟩ := tn_one g (show k < cnt by omega) hon (by omega) i1 _ e1
      refine ⟨j1, fun p M m h => j2 p M m (i2 p M m h), ?_, ?_⟩
      · intro j hj hoj M m h
        rcases Nat.lt_or_ge j k with h1 | h1
        · exact j2 _ _ _ (i3 j h1 hoj M m h)
        · have : j = k := by omega
          subst this
          exact j3 M m (i2 _ _ _ h)
      · intro h
        rw [tn_rnd] at h ⊢
        by_cases hi : tn_imp fp sp mo k (tn_rnd fp sp mo on d k).1
        · rw [if_pos ⟨hon, hi⟩] at h; cases h
        · rw [if_neg (fun h => hi h.2)] at h ⊢
          exact i4 h
    · have e1 : tn_rnd fp sp mo on d (k + 1) = tn_rnd fp sp mo on d k := by
        rw [tn_rnd, if_neg (fun h => hon h.1)]
      rw [e1]
      refine ⟨fun p hp hm => ?_, i2, ?_, i4⟩
      · obtain ⟨n', h1, h2, h3⟩ := i1 p hp hm
        exact ⟨n', by omega, h2, h3⟩
      · intro j hj hoj
        rcases Nat.lt_or_ge j k with h1 | h1
        · exact i3 j h1 hoj
        · have : j = k := by omega
          subst this
          exact absurd hoj hon
def tn_cmp (E : Nat → Nat → Int → Prop) (t R : Nat) (d : tn_D) : Prop := ∀ p m M, m ≤ R → tn_wk E m p t M → tn_ub d p M m
theorem tn_cmp_s {cnt : Nat} {fp sp : Nat → Nat} {mo : Nat → Int64} {on : Nat → Bool} {t R : Nat} {d d' : tn_D} (h : tn_cmp (tn_E cnt fp sp mo on) t R d) (hm : ∀ p M m, tn_ub d p M m → tn_ub d' p M m) (hr : ∀ j, j < cnt → on j = true → ∀ M m, tn_ub d (sp j) M m → tn_ub d' (fp j) ((mo j).toInt + M) (m + 1)) : tn_cmp (tn_E cnt fp sp mo on) t (R + 1) d' := by
  intro p m M hmR w
  cases m with
  | zero => exact hm _ _ _ (h p 0 M (by omega) w)
  | succ m =>
    obtain ⟨q, c, ⟨k, hk, hon, rfl, rfl, rfl⟩, w⟩ := w
    have h1 := hr k hk hon _ _ (h _ _ _ (by omega) w)
    rw [show (mo k).toInt + (M - (mo k).toInt) = M by omega] at h1
    exact h1
theorem tn_lop_ok {cnt : Nat} {fp sp : Nat → Nat} {mo : Nat → Int64} {on : Nat → Bool} {t : Nat} (g : tn_good cnt fp sp mo) : ∀ (r T R : Nat) (d : tn_D), T + r * 120 ≤ 2900 → tn_snd (tn_E cnt fp sp mo on) t T d → tn_cmp (tn_E cnt fp sp mo on) t R d →
    tn_snd (tn_E cnt fp sp mo on) t 2900 (tn_lop cnt fp sp mo on r d) ∧ tn_cmp (tn_E cnt fp sp mo on) t (R + r) (tn_lop cnt fp sp mo on r d) := by
  have hw : ∀ {T T' : Nat} {d : tn_D}, T ≤ T' → tn_snd (tn_E cnt fp sp mo on) t T d → tn_snd (tn_E cnt fp sp mo on) t T' d := fun h hs p hp hm => by
    obtain ⟨n', h1, h2, h3⟩ := hs p hp hm
    exact ⟨n', by omega, h2, h3⟩
  intro r
  induction r with
  | zero => intro T R d hT hs hc; exact ⟨hw (by omega) hs, hc⟩
  | succ r ih =>
    intro T R d hT hs hc
    have hcnt := g.1
    obtain ⟨i1, i2, i3, i4⟩ := tn_rnd_ok g (by omega) hs cnt (Nat.le_refl _)
    rw [tn_lop]
    by_cases hx : (tn_rnd fp sp mo on d cnt).2 = true
    · rw [if_pos hx]
      obtain ⟨j1, j2⟩ := ih (T + cnt) (R + 1) _ (by omega) i1 (tn_cmp_s hc i2 i3)
      exact ⟨j1, by rw [show R + (r + 1) = R + 1 + r by omega]; exact j2⟩
    · rw [if_neg hx]
      have e := i4 (by simpa using hx)
      rw [e] at i2 i3 ⊢
      refine ⟨hw (by omega) hs, ?_⟩
      have : ∀ n, tn_cmp (tn_E cnt fp sp mo on) t (R + n) d := by
        intro n
        induction n with
        | zero => exact hc
        | succ n ihn => exact tn_cmp_s ihn i2 i3
      exact this (r + 1)
theorem tn_d0_1 {lf : Nat → Int64} {sf : Nat → Int32} {t : Nat} : (tn_d0 lf sf t).1 t = 0 := by simp [tn_d0, vp_updL]
theorem tn_d0_2 {lf : Nat → Int64} {sf : Nat → Int32} {t : Nat} : (tn_d0 lf sf t).2 t = nI 0 := by simp [tn_d0, upd, nI_0]
theorem tn_d0_n {lf : Nat → Int64} {sf : Nat → Int32} {t p : Nat} (h : p ≠ t) (hp : p < 20) : (tn_d0 lf sf t).1 p = tn_MX := by
  simp [tn_d0, vp_updL, h, hp]
/-- WHAT THE MEASURING GIVES -/
theorem tn_meas {cnt : Nat} {fp sp : Nat → Nat} {mo : Nat → Int64} {on : Nat → Bool} {lf : Nat → Int64} {sf : Nat → Int32} {t : Nat} (g : tn_good cnt fp sp mo) (ok : tn_ok (tn_E cnt fp sp mo on)) (ht : t < 20) (d : tn_D) (hd : d = tn_lop cnt fp sp mo on 19 (tn_d0 lf sf t)) : ∀ p, p < 20 →
    (d.1 p = tn_MX ∧ ∀ n L, ¬ tn_wk (tn_E cnt fp sp mo on) n p t L) ∨ (d.1 p ≠ tn_MX ∧ ∃ n, n ≤ 19 ∧ d.2 p = nI n ∧ tn_best (tn_E cnt fp sp mo on) p t (d.1 p).toInt n) := by
  have hs0 : tn_snd (tn_E cnt fp sp mo on) t 0 (tn_d0 lf sf t) := by
    intro p hp hm
    by_cases he : p = t
    · subst he
      refine ⟨0, Nat.le_refl 0, tn_d0_2, rfl, ?_⟩
      rw [tn_d0_1]; rfl
    · exact absurd (tn_d0_n he hp) hm
  have hc0 : tn_cmp (tn_E cnt fp sp mo on) t 0 (tn_d0 lf sf t) := by
    intro p m M hm w
    obtain rfl : m = 0 := by omega
    obtain ⟨rfl, rfl⟩ := w
    refine ⟨by rw [tn_d0_1]; decide, 0, by omega, tn_d0_2, ?_⟩
    rw [tn_d0_1]; exact Or.inr ⟨rfl, Nat.le_refl 0⟩
  obtain ⟨hs, hc⟩ := tn_lop_ok g 19 0 0 _ (by omega) hs0 hc0
  rw [← hd] at hs hc
  rw [Nat.zero_add] at hc
  have hall : ∀ p m M, tn_wk (tn_E cnt fp sp mo on) m p t M → tn_ub d p M m := by
    intro p m M w
    obtain ⟨m', M', k1, k2, k3, k4⟩ := tn_cut (tn_E_in g) ok m p t M w
    obtain ⟨hm, n, h1, h2, h3⟩ := hc p m' M' k1 k4
    refine ⟨hm, n, h1, h2, ?_⟩
    unfold tn_le at h3 ⊢; omega
  intro p hp
  by_cases hm : d.1 p = tn_MX
  · exact Or.inl ⟨hm, fun n L w => (hall p n L w).1 hm⟩
  · refine Or.inr ⟨hm, ?_⟩
    obtain ⟨n, h1, h2, h3⟩ := hs p hp hm
    have hb : tn_best (tn_E cnt fp sp mo on) p t (d.1 p).toInt n := by
      refine ⟨h3, fun m M w => ?_⟩
      obtain ⟨-, n', k1, k2, k3⟩ := hall p m M w
      have : n = n' := (nI_eq (by omega) (by omega)).mp (h2.symm.trans k2)
      rw [this]; exact k3
    exact ⟨n, tn_best_small (tn_E_in g) ok hb, h2, hb⟩
end
section
/-! ROWS OF OUR OWN over the kit's: indices that are Nats, pairs of a compare and a branch, worlds of one object -/
section TNR
variable {p : Program} {l : Launch} {e : Env} {R : Room} {s : State} {m : MethodId} {args : Array Value} {below : List Frame} {meth : Method} {c : Code} {H : Heap} {locs : List Loc} {cells slots : Nat} {Q : State → Prop}
variable {cc : ByteArray} {pc : Nat} {ls : Array Slot} {rest : List Value} {D : va_G} {cl : List vw_C} {A : Nat → Prop} {a : Nat} {tys : List (ClassId × FieldType)} {ws : va_W} {H0 : Heap}
theorem tn_iald (hx : p.tables.exec = Jvm.exec) (hb : c.code = cc) (hK : va_K D cl tys s) (hP : va_P D cl ws H) (q0 t0 : Nat) {cA : ClassId} {n : Nat} {f : Nat → Int32} (ha : ws[q0]? = some (a, .inl (cA, n, .inl f))) (ht : tys[t0]? = some (cA, .int)) {i : Nat} (hi : i < n) (hn : n < 2 ^ 31) {v : Int32} (hv : f i = v) (hdg : decode cc pc = .ok (.iaload, 1))
    (kk : W p l e R s m args below meth c H locs cells slots Q (F0 m (pc + 1) ls (.int v :: rest))) : W p l e R s m args below meth c H locs cells slots Q (F0 m pc ls (.int (nI i) :: .ref a :: rest)) := by
  refine va_iald hx hb hK hP q0 t0 ha ht (vp_in_nI hi hn) hdg ?_
  rw [nI_clamp (by omega), hv]; exact kk
theorem tn_zald (hx : p.tables.exec = Jvm.exec) (hb : c.code = cc) (hK : va_K D cl tys s) (hP : va_P D cl ws H) (q0 t0 : Nat) {cA : ClassId} {n : Nat} {f : Nat → Int32} (ha : ws[q0]? = some (a, .inl (cA, n, .inl f))) (ht : tys[t0]? = some (cA, .boolean)) {i : Nat} (hi : i < n) (hn : n < 2 ^ 31) {v : Int32} (hv : f i = v) (hdg : decode cc pc = .ok (.baload, 1))
    (kk : W p l e R s m args below meth c H locs cells slots Q (F0 m (pc + 1) ls (.int v :: rest))) : W p l e R s m args below meth c H locs cells slots Q (F0 m pc ls (.int (nI i) :: .ref a :: rest)) := by
  refine va_zald hx hb hK hP q0 t0 ha ht (vp_in_nI hi hn) hdg ?_
  rw [nI_clamp (by omega), hv]; exact kk
theorem tn_lald (hx : p.tables.exec = Jvm.exec) (hb : c.code = cc) (hK : va_K D cl tys s) (hP : va_P D cl ws H) (q0 t0 : Nat) {cA : ClassId} {n : Nat} {f : Nat → Int64} (ha : ws[q0]? = some (a, .inl (cA, n, .inr (.inl f)))) (ht : tys[t0]? = some (cA, .long)) {i : Nat} (hi : i < n) (hn : n < 2 ^ 31) {v : Int64} (hv : f i = v) (hdg : decode cc pc = .ok (.laload, 1))
    (kk : W p l e R s m args below meth c H locs cells slots Q (F0 m (pc + 1) ls (.long v :: rest))) : W p l e R s m args below meth c H locs cells slots Q (F0 m pc ls (.int (nI i) :: .ref a :: rest)) := by
  refine va_lald hx hb hK hP q0 t0 ha ht (vp_in_nI hi hn) hdg ?_
  rw [nI_clamp (by omega), hv]; exact kk
theorem tn_iast (hx : p.tables.exec = Jvm.exec) (hb : c.code = cc) (hK : va_K D cl tys s) (hP : va_P D cl ws H) (hD : va_D A ws) (hS : va_S A H0 H locs) (q0 t0 : Nat) {cA : ClassId} {n : Nat} {f : Nat → Int32} (ha : ws[q0]? = some (a, .inl (cA, n, .inl f))) (ht : tys[t0]? = some (cA, .int)) {i : Nat} {x : Int32} (hi : i < n) (hn : n < 2 ^ 31) {f' : Nat → Int32} (hf : upd f i x = f') (hdg : decode cc pc = .ok (.iastore, 1))
    (kk : ∀ (H1 : Heap) (locs1 : List Loc), va_P D cl (ws.set q0 (a, .inl (cA, n, .inl f'))) H1 → va_D A (ws.set q0 (a, .inl (cA, n, .inl f'))) → va_S A H0 H1 locs1 → W p l e R s m args below meth c H1 locs1 cells slots Q (F0 m (pc + 1) ls rest)) : W p l e R s m args below meth c H locs cells slots Q (F0 m pc ls (.int x :: .int (nI i) :: .ref a :: rest)) := by
  refine va_iast hx hb hK hP hD hS q0 t0 ha ht (vp_in_nI hi hn) hdg ?_
  rw [nI_clamp (by omega), hf]; exact kk
theorem tn_zast (hx : p.tables.exec = Jvm.exec) (hb : c.code = cc) (hK : va_K D cl tys s) (hP : va_P D cl ws H) (hD : va_D A ws) (hS : va_S A H0 H locs) (q0 t0 : Nat) {cA : ClassId} {n : Nat} {f : Nat → Int32} (ha : ws[q0]? = some (a, .inl (cA, n, .inl f))) (ht : tys[t0]? = some (cA, .boolean)) {i : Nat} {x : Int32} (hi : i < n) (hn : n < 2 ^ 31) {f' : Nat → Int32} (hf : upd f i (vp_nar .boolean x) = f') (hdg : decode cc pc = .ok (.bastore, 1))
    (kk : ∀ (H1 : Heap) (locs1 : List Loc), va_P D cl (ws.set q0 (a, .inl (cA, n, .inl f'))) H1 → va_D A (ws.set q0 (a, .inl (cA, n, .inl f'))) → va_S A H0 H1 locs1 → W p l e R s m args below meth c H1 locs1 cells slots Q (F0 m (pc + 1) ls rest)) : W p l e R s m args below meth c H locs cells slots Q (F0 m pc ls (.int x :: .int (nI i) :: .ref a :: rest)) := by
  refine va_zast hx hb hK hP hD hS q0 t0 ha ht (vp_in_nI hi hn) hdg ?_
  rw [nI_clamp (by omega), hf]; exact kk
theorem tn_last (hx : p.tables.exec = Jvm.exec) (hb : c.code = cc) (hK : va_K D cl tys s) (hP : va_P D cl ws H) (hD : va_D A ws) (hS : va_S A H0 H locs) (q0 t0 : Nat) {cA : ClassId} {n : Nat} {f : Nat → Int64} (ha : ws[q0]? = some (a, .inl (cA, n, .inr (.inl f)))) (ht : tys[t0]? = some (cA, .long)) {i : Nat} {x : Int64} (hi : i < n) (hn : n < 2 ^ 31) {f' : Nat → Int64} (hf : vp_updL f i x = f') (hdg : decode cc pc = .ok (.lastore, 1))
    (kk : ∀ (H1 : Heap) (locs1 : List Loc), va_P D cl (ws.set q0 (a, .inl (cA, n, .inr (.inl f')))) H1 → va_D A (ws.set q0 (a, .inl (cA, n, .inr (.inl f')))) → va_S A H0 H1 locs1 → W p l e R s m args below meth c H1 locs1 cells slots Q (F0 m (pc + 1) ls rest)) : W p l e R s m args below meth c H locs cells slots Q (F0 m pc ls (.long x :: .int (nI i) :: .ref a :: rest)) := by
  refine va_last hx hb hK hP hD hS q0 t0 ha ht (vp_in_nI hi hn) hdg ?_
  rw [nI_clamp (by omega), hf]; exact kk
theorem tn_lc_eq (hx : p.tables.exec = Jvm.exec) (hb : c.code = cc) {x y : Int64} {off : Int} {tgt : Nat} (hd0 : decode cc pc = .ok (.lcmp, 1)) (hd1 : decode cc (pc + 1) = .ok (.ifCond .eq off, 3)) (ht : ((pc + 1 : Nat) : Int) + off = (tgt : Int))
    (kt : x = y → W p l e R s m args below meth c H locs cells slots Q (F0 m tgt ls rest)) (kf : ¬ x = y → W p l e R s m args below meth c H locs cells slots Q (F0 m (pc + 1 + 3) ls rest)) : W p l e R s m args below meth c H locs cells slots Q (F0 m pc ls (.long y :: .long x :: rest)) :=
  W.lcmp hx hb hd0 (lv_if_eq hx hb hd1 ht (fun h => kt ((lg_cmp_eq x y).mp h)) (fun h => kf (fun h2 => h ((lg_cmp_eq x y).mpr h2))))
theorem tn_lc_ne (hx : p.tables.exec = Jvm.exec) (hb : c.code = cc) {x y : Int64} {off : Int} {tgt : Nat} (hd0 : decode cc pc = .ok (.lcmp, 1)) (hd1 : decode cc (pc + 1) = .ok (.ifCond .ne off, 3)) (ht : ((pc + 1 : Nat) : Int) + off = (tgt : Int))
    (kt : ¬ x = y → W p l e R s m args below meth c H locs cells slots Q (F0 m tgt ls rest)) (kf : x = y → W p l e R s m args below meth c H locs cells slots Q (F0 m (pc + 1 + 3) ls rest)) : W p l e R s m args below meth c H locs cells slots Q (F0 m pc ls (.long y :: .long x :: rest)) :=
  W.lcmp hx hb hd0 (lv_if_ne hx hb hd1 ht (fun h => kt (fun h2 => h ((lg_cmp_eq x y).mpr h2))) (fun h => kf ((lg_cmp_eq x y).mp h)))
theorem tn_lc_lt (hx : p.tables.exec = Jvm.exec) (hb : c.code = cc) {x y : Int64} {off : Int} {tgt : Nat} (hd0 : decode cc pc = .ok (.lcmp, 1)) (hd1 : decode cc (pc + 1) = .ok (.ifCond .lt off, 3)) (ht : ((pc + 1 : Nat) : Int) + off = (tgt : Int))
    (kt : x < y → W p l e R s m args below meth c H locs cells slots Q (F0 m tgt ls rest)) (kf : ¬ x < y → W p l e R s m args below meth c H locs cells slots Q (F0 m (pc + 1 + 3) ls rest)) : W p l e R s m args below meth c H locs cells slots Q (F0 m pc ls (.long y :: .long x :: rest)) :=
  W.lcmp hx hb hd0 (lv_if_lt hx hb hd1 ht (fun h => kt ((lg_cmp_lt x y).mp h)) (fun h => kf (fun h2 => h ((lg_cmp_lt x y).mpr h2))))
theorem tn_lc_ge (hx : p.tables.exec = Jvm.exec) (hb : c.code = cc) {x y : Int64} {off : Int} {tgt : Nat} (hd0 : decode cc pc = .ok (.lcmp, 1)) (hd1 : decode cc (pc + 1) = .ok (.ifCond .ge off, 3)) (ht : ((pc + 1 : Nat) : Int) + off = (tgt : Int))
    (kt : y ≤ x → W p l e R s m args below meth c H locs cells slots Q (F0 m tgt ls rest)) (kf : ¬ y ≤ x → W p l e R s m args below meth c H locs cells slots Q (F0 m (pc + 1 + 3) ls rest)) : W p l e R s m args below meth c H locs cells slots Q (F0 m pc ls (.long y :: .long x :: rest)) :=
  W.lcmp hx hb hd0 (lv_if_ge hx hb hd1 ht (fun h => kt ((lg_cmp_ge x y).mp h)) (fun h => kf (fun h2 => h ((lg_cmp_ge x y).mpr h2))))
theorem tn_lc_gt (hx : p.tables.exec = Jvm.exec) (hb : c.code = cc) {x y : Int64} {off : Int} {tgt : Nat} (hd0 : decode cc pc = .ok (.lcmp, 1)) (hd1 : decode cc (pc + 1) = .ok (.ifCond .gt off, 3)) (ht : ((pc + 1 : Nat) : Int) + off = (tgt : Int))
    (kt : y < x → W p l e R s m args below meth c H locs cells slots Q (F0 m tgt ls rest)) (kf : ¬ y < x → W p l e R s m args below meth c H locs cells slots Q (F0 m (pc + 1 + 3) ls rest)) : W p l e R s m args below meth c H locs cells slots Q (F0 m pc ls (.long y :: .long x :: rest)) :=
  W.lcmp hx hb hd0 (lv_if_gt hx hb hd1 ht (fun h => kt ((lg_cmp_gt x y).mp h)) (fun h => kf (fun h2 => h ((lg_cmp_gt x y).mpr h2))))
theorem tn_lc_le (hx : p.tables.exec = Jvm.exec) (hb : c.code = cc) {x y : Int64} {off : Int} {tgt : Nat} (hd0 : decode cc pc = .ok (.lcmp, 1)) (hd1 : decode cc (pc + 1) = .ok (.ifCond .le off, 3)) (ht : ((pc + 1 : Nat) : Int) + off = (tgt : Int))
    (kt : x ≤ y → W p l e R s m args below meth c H locs cells slots Q (F0 m tgt ls rest)) (kf : ¬ x ≤ y → W p l e R s m args below meth c H locs cells slots Q (F0 m (pc + 1 + 3) ls rest)) : W p l e R s m args below meth c H locs cells slots Q (F0 m pc ls (.long y :: .long x :: rest)) :=
  W.lcmp hx hb hd0 (lv_if_le hx hb hd1 ht (fun h => kt ((lg_cmp_le x y).mp h)) (fun h => kf (fun h2 => h ((lg_cmp_le x y).mpr h2))))
end TNR
/-- a flag as the machine's number -/
def tn_b (b : Bool) : Int32 := if b = true then 1 else 0
theorem tn_b_1 : tn_b true = 1 := rfl
theorem tn_b_0 : tn_b false = 0 := rfl
theorem tn_b_eq0 {b : Bool} (h : tn_b b = 0) : b = false := by cases b with | false => rfl | true => exact absurd h (by decide)
theorem tn_b_ne0 {b : Bool} (h : ¬ tn_b b = 0) : b = true := by cases b with | true => rfl | false => exact absurd rfl h
theorem tn_b_nar (b : Bool) : narrow .boolean (.int (tn_b b)) = .int (tn_b b) := by cases b <;> rfl
theorem tn_updN (f : Nat → Nat) (i v : Nat) : upd (fun k => nI (f k)) i (nI v) = fun k => nI (va_up f i v k) := by
  funext k; simp only [upd, va_up]; split <;> rfl
theorem tn_updB (f : Nat → Bool) (i : Nat) (v : Bool) : upd (fun k => tn_b (f k)) i (vp_nar .boolean (tn_b v)) = fun k => tn_b (va_up f i v k) := by
  have h : vp_nar .boolean (tn_b v) = tn_b v := by cases v <;> decide
  funext k; simp only [upd, va_up, h]; split <;> rfl
/-- what a method finds; what it leaves -/
abbrev tn_Pre (dC : Nat → ClassId) (dI : Nat → Nat → Nat) (tys : List (ClassId × FieldType)) (ws : va_W) (sz : Nat) (U : State) : Prop := U.heap.size = sz ∧ va_P (dC, dI) vwCl ws U.heap ∧ va_K (dC, dI) vwCl tys U ∧ va_D (fun _ => True) ws
abbrev tn_at (dC : Nat → ClassId) (dI : Nat → Nat → Nat) (tys : List (ClassId × FieldType)) (A : Nat → Prop) (ws : va_W) (t : State) : Prop := va_P (dC, dI) vwCl ws t.heap ∧ va_K (dC, dI) vwCl tys t ∧ va_D A ws
theorem tn_blind {dC : Nat → ClassId} {dI : Nat → Nat → Nat} {tys : List (ClassId × FieldType)} {ws : va_W} {sz : Nat} {av : List Value} : FrameBlind (va_Pc av (tn_Pre dC dI tys ws sz)) := fun a U g mk q => by
  obtain ⟨q0, q1, qP, qK, qD⟩ := q
  exact ⟨q0, q1, qP, va_K.moved (u := U) (U := U.calling g mk a) (Vm.Alike.refl U.vm) qK, qD⟩
theorem tn_preS {dC : Nat → ClassId} {dI : Nat → Nat → Nat} {tys : List (ClassId × FieldType)} {ws : va_W} {s : State} {H : Heap} {A : Nat → Prop} {As : List Value} (hK : va_K (dC, dI) vwCl tys s) (hP : va_P (dC, dI) vwCl ws H) (hD : va_D A ws) : PreS s H (va_Pc As (tn_Pre dC dI tys ws H.size)) As :=
  ⟨tn_blind, fun U hU hW => ⟨rfl, by rw [hU], by rw [hU]; exact hP, va_K.moved hW.alike hK, hD.weaken (fun _ _ _ _ => trivial)⟩⟩
theorem tn_preV {dC : Nat → ClassId} {dI : Nat → Nat → Nat} {tys : List (ClassId × FieldType)} {ws : va_W} {s : State} {H : Heap} {A : Nat → Prop} {As : List Value} {b ci : Nat} {q : vw_C} {fs : List Value} (hK : va_K (dC, dI) vwCl tys s) (hP : va_P (dC, dI) vwCl ws H) (hD : va_D A ws) (hc : vwCl[ci]? = some q) (q0 : Nat) (he : ws[q0]? = some (b, .inr (ci, fs))) : PreV s H q.1 b (va_Pc (.ref b :: As) (tn_Pre dC dI tys ws H.size)) As :=
  ⟨tn_blind, va_recv hK hP (ci := ci) (q0 := q0) hc he, fun U hU hW => ⟨rfl, by rw [hU], by rw [hU]; exact hP, va_K.moved hW.alike hK, hD.weaken (fun _ _ _ _ => trivial)⟩⟩
theorem tn_freeA {A : Nat → Prop} {ws : va_W} {H0 H : Heap} {locs : List Loc} (hD : va_D A ws) (hS : va_S A H0 H locs) (hA : ∀ q, H0.size ≤ q → A q) : ∀ q, va_A ws H.size q → A q := by
  intro q h
  rcases h with ⟨k, e, hk⟩ | h
  · exact hD.2 k _ hk
  · exact hA q (Nat.le_trans hS.1 h)
/-- arrays of one type are of one number -/
theorem tn_sameI {dC : Nat → ClassId} {dI : Nat → Nat → Nat} {tys : List (ClassId × FieldType)} {s : State} {i j : Nat} {a b : ClassId} (hK : va_K (dC, dI) vwCl tys s) (h1 : tys[i]? = some (a, .int)) (h2 : tys[j]? = some (b, .int)) : b = a := Option.some.inj ((hK.2 j _ h2).2.symm.trans (hK.2 i _ h1).2)
theorem tn_sameJ {dC : Nat → ClassId} {dI : Nat → Nat → Nat} {tys : List (ClassId × FieldType)} {s : State} {i j : Nat} {a b : ClassId} (hK : va_K (dC, dI) vwCl tys s) (h1 : tys[i]? = some (a, .long)) (h2 : tys[j]? = some (b, .long)) : b = a := Option.some.inj ((hK.2 j _ h2).2.symm.trans (hK.2 i _ h1).2)
theorem tn_sameZ {dC : Nat → ClassId} {dI : Nat → Nat → Nat} {tys : List (ClassId × FieldType)} {s : State} {i j : Nat} {a b : ClassId} (hK : va_K (dC, dI) vwCl tys s) (h1 : tys[i]? = some (a, .boolean)) (h2 : tys[j]? = some (b, .boolean)) : b = a := Option.some.inj ((hK.2 j _ h2).2.symm.trans (hK.2 i _ h1).2)
/-- the array types of both objects -/
abbrev tn_tys (cI cL cZ : ClassId) : List (ClassId × FieldType) := [(cI, .int), (cL, .long), (cZ, .boolean)]
/-- the cells of a TimeNet -/
def tn_ws (h a1 a2 a3 a4 a5 a6 a7 : Nat) (cI cL cZ : ClassId) (cnt onc : Nat) (fp sp : Nat → Nat) (mo : Nat → Int64) (on : Nat → Bool) (lf : Nat → Int64) (sf : Nat → Int32) (rp : Nat → Nat) (rs : Nat) (rl : Int64) : va_W :=
  [(h, .inr (0, [.ref a1, .ref a2, .ref a3, .ref a4, .int (nI cnt), .int (nI onc), .ref a5, .ref a6, .ref a7, .int (nI rs), .long rl])),
   (a1, .inl (cI, 120, .inl (fun k => nI (fp k)))), (a2, .inl (cI, 120, .inl (fun k => nI (sp k)))), (a3, .inl (cL, 120, .inr (.inl mo))), (a4, .inl (cZ, 120, .inl (fun k => tn_b (on k)))),
   (a5, .inl (cL, 20, .inr (.inl lf))), (a6, .inl (cI, 20, .inl sf)), (a7, .inl (cI, 21, .inl (fun k => nI (rp k))))]
/-- the cells of a TimeNetModel -/
def tm_ws (h b1 b2 b3 b4 b5 b6 : Nat) (cI cL cZ : ClassId) (th : Nat) (cnt : Nat) (fp sp : Nat → Nat) (mo : Nat → Int64) (on : Nat → Bool) (rs : Nat) (rw : Nat → Nat) (rl : Int64) (le : Nat → Int64) (bl : Int64) (bs : Int32) : va_W :=
  [(h, .inr (1, [.int (nI th), .int (nI cnt), .ref b1, .ref b2, .ref b3, .ref b4, .int (nI rs), .ref b5, .long rl, .ref b6, .long bl, .int bs])),
   (b1, .inl (cI, 120, .inl (fun k => nI (fp k)))), (b2, .inl (cI, 120, .inl (fun k => nI (sp k)))), (b3, .inl (cL, 120, .inr (.inl mo))), (b4, .inl (cZ, 120, .inl (fun k => tn_b (on k)))),
   (b5, .inl (cI, 24, .inl (fun k => nI (rw k)))), (b6, .inl (cL, 420, .inr (.inl le)))]
end
section
section TNN
variable {p : Program} {l : Launch} {e : Env} {R : Room} {s : State} {m : MethodId} {args : Array Value} {below : List Frame} {meth : Method} {c : Code} {H : Heap} {locs : List Loc} {cells slots : Nat} {Q : State → Prop}
variable {cc : ByteArray} {pc : Nat} {ls : Array Slot} {rest : List Value}
theorem tn_iadd (hx : p.tables.exec = Jvm.exec) (hb : c.code = cc) {a b : Nat} (hdg : decode cc pc = .ok (.iadd, 1))
    (k : W p l e R s m args below meth c H locs cells slots Q (F0 m (pc + 1) ls (.int (nI (a + b)) :: rest))) : W p l e R s m args below meth c H locs cells slots Q (F0 m pc ls (.int (nI b) :: .int (nI a) :: rest)) :=
  lv_iadd hx hb hdg (by rw [nI_add]; exact k)
theorem tn_isub (hx : p.tables.exec = Jvm.exec) (hb : c.code = cc) {a b : Nat} (h : b ≤ a) (hdg : decode cc pc = .ok (.isub, 1))
    (k : W p l e R s m args below meth c H locs cells slots Q (F0 m (pc + 1) ls (.int (nI (a - b)) :: rest))) : W p l e R s m args below meth c H locs cells slots Q (F0 m pc ls (.int (nI b) :: .int (nI a) :: rest)) :=
  lv_isub hx hb hdg (by rw [pk_sub h]; exact k)
theorem tn_imul (hx : p.tables.exec = Jvm.exec) (hb : c.code = cc) {a b : Nat} (hdg : decode cc pc = .ok (.imul, 1))
    (k : W p l e R s m args below meth c H locs cells slots Q (F0 m (pc + 1) ls (.int (nI (a * b)) :: rest))) : W p l e R s m args below meth c H locs cells slots Q (F0 m pc ls (.int (nI b) :: .int (nI a) :: rest)) :=
  lv_imul hx hb hdg (by rw [pk_mul]; exact k)
theorem tn_inc (n : Nat) : nI n + Int32.ofInt 1 = nI (n + 1) := nI_1 n
theorem tn_dec (n : Nat) : nI (n + 1) + Int32.ofInt (-1) = nI n := pk_m1 n
end TNN
end
section
/-! numbers as places; the class's own loops as functions -/
theorem tn_ix1 {x : Int32} {n : Nat} (h1 : ¬ x < 0) (h2 : ¬ nI n ≤ x) (hn : n < 2 ^ 31) : ∃ j, j < n ∧ x = nI j := by
  obtain ⟨j, a, b, -⟩ := pk_mu h1 h2 hn
  exact ⟨j, a, b⟩
theorem tn_ix2 {x : Int32} {n : Nat} (h : x < 0) (hn : n < 2 ^ 31) : ∀ j, j < n → x ≠ nI j := fun j hj e => nI_pos (show j < 2 ^ 31 by omega) (e ▸ h)
theorem tn_ix3 {x : Int32} {n : Nat} (h : nI n ≤ x) (hn : n < 2 ^ 31) : ∀ j, j < n → x ≠ nI j := fun j hj e => nI_ge hj hn (e ▸ h)
/-- the next point of a best path, as far as constraint k -/
def tn_nxt (fp sp : Nat → Nat) (mo : Nat → Int64) (on : Nat → Bool) (d : tn_D) (p : Nat) : Nat → Nat
  | 0 => 20
  | k + 1 => if fp k = p ∧ sp k < tn_nxt fp sp mo on d p k ∧ on k = true ∧ d.1 (sp k) ≠ tn_MX ∧ mo k + d.1 (sp k) = d.1 (fp k) ∧ d.2 (sp k) + 1 = d.2 (fp k) then sp k else tn_nxt fp sp mo on d p k
theorem tn_nxt_le (fp sp : Nat → Nat) (mo : Nat → Int64) (on : Nat → Bool) (d : tn_D) (p : Nat) : ∀ k, tn_nxt fp sp mo on d p k ≤ 20 := by
  intro k
  induction k with
  | zero => exact Nat.le_refl 20
  | succ k ih => rw [tn_nxt]; split <;> omega
/-- the row behind n steps from p, the points put from place a on -/
def tn_put (nx : Nat → Nat) (a : Nat) : Nat → Nat → (Nat → Nat) → (Nat → Nat)
  | 0, _, rp => rp
  | n + 1, p, rp => tn_put nx (a + 1) n (nx p) (va_up rp a (nx p))
abbrev tn_ms (cnt : Nat) (fp sp : Nat → Nat) (mo : Nat → Int64) (on : Nat → Bool) (lf : Nat → Int64) (sf : Nat → Int32) (t : Nat) : tn_D := tn_lop cnt fp sp mo on 19 (tn_d0 lf sf t)
theorem tn_fillL (f : Nat → Int64) (a : Int64) (i : Nat) : vp_updL (fun p => if p < i then a else f p) i a = fun p => if p < i + 1 then a else f p := by
  funext k; simp only [vp_updL]
  by_cases h : k = i
  · subst h; rw [if_pos rfl, if_pos (by omega)]
  · rw [if_neg h]
    by_cases h2 : k < i
    · rw [if_pos h2, if_pos (by omega)]
    · rw [if_neg h2, if_neg (by omega)]
theorem tn_fillI (f : Nat → Int32) (a : Int32) (i : Nat) : upd (fun p => if p < i then a else f p) i a = fun p => if p < i + 1 then a else f p := by
  funext k; simp only [upd]
  by_cases h : k = i
  · subst h; rw [if_pos rfl, if_pos (by omega)]
  · rw [if_neg h]
    by_cases h2 : k < i
    · rw [if_pos h2, if_pos (by omega)]
    · rw [if_neg h2, if_neg (by omega)]
theorem tn_limI : (-1000000000000 : Int64).toInt = -1000000000000 ∧ (1000000000000 : Int64).toInt = 1000000000000 := by decide
theorem tn_lim {c : Int64} (h1 : ¬ c < -1000000000000) (h2 : ¬ 1000000000000 < c) : -1000000000000 ≤ c.toInt ∧ c.toInt ≤ 1000000000000 := by
  rw [Int64.lt_iff_toInt_lt, tn_limI.1] at h1
  rw [Int64.lt_iff_toInt_lt, tn_limI.2] at h2
  omega
theorem tn_lim_lo {c : Int64} (h : c < -1000000000000) : ¬ -1000000000000 ≤ c.toInt := by
  rw [Int64.lt_iff_toInt_lt, tn_limI.1] at h; omega
theorem tn_lim_hi {c : Int64} (h : 1000000000000 < c) : ¬ c.toInt ≤ 1000000000000 := by
  rw [Int64.lt_iff_toInt_lt, tn_limI.2] at h; omega
theorem tn_pos {n : Nat} (h : nI n ≤ 0) (hn : n < 2 ^ 31) : n = 0 := by
  rcases Nat.eq_zero_or_pos n with q | q
  · exact q
  · exact absurd h (nI_nle q hn)
end
section
/-! WHAT EACH CALL ANSWERS, in the words of walks: for the class and for the reference alike -/
/-- q begins a best walk from p to t, behind the first edge -/
def tn_nx (E : Nat → Nat → Int → Prop) (t p q : Nat) : Prop := ∃ (c L : Int) (n : Nat), E p q c ∧ tn_best E p t (c + L) (n + 1) ∧ tn_best E q t L n
def tn_nxl (E : Nat → Nat → Int → Prop) (t p q : Nat) : Prop := tn_nx E t p q ∧ ∀ q', tn_nx E t p q' → q ≤ q'
/-- the row f holds from place a on the n + 1 points of the best walk from p to t -/
def tn_bp (E : Nat → Nat → Int → Prop) (t n p : Nat) (f : Nat → Nat) (a : Nat) : Prop := f a = p ∧ ∀ s, s < n → tn_nxl E t (f (a + s)) (f (a + s + 1))
theorem tn_nxl_eq {E : Nat → Nat → Int → Prop} {t p q r : Nat} (h : tn_nxl E t p q) (g : tn_nxl E t p r) : q = r := Nat.le_antisymm (h.2 r g.1) (g.2 q h.1)
theorem tn_bp_eq {E : Nat → Nat → Int → Prop} {t n p a : Nat} {f g : Nat → Nat} (h : tn_bp E t n p f a) (k : tn_bp E t n p g a) : ∀ s, s ≤ n → f (a + s) = g (a + s) := by
  intro s
  induction s with
  | zero => intro _; exact h.1.trans k.1.symm
  | succ s ih =>
    intro hs
    have e := ih (by omega)
    have h1 := h.2 s (by omega)
    have k1 := k.2 s (by omega)
    rw [← e] at k1
    exact tn_nxl_eq h1 k1
theorem tn_best_sub {E : Nat → Nat → Int → Prop} {p t n : Nat} {L : Int} (h : tn_best E p t L (n + 1)) : ∃ (q : Nat) (c : Int), E p q c ∧ tn_best E q t (L - c) n := by
  obtain ⟨⟨q, c, he, w⟩, hm⟩ := h
  refine ⟨q, c, he, w, fun m M w2 => ?_⟩
  have := hm _ _ (tn_wk_cons he w2)
  unfold tn_le at this ⊢; omega
theorem tn_nx_ex {E : Nat → Nat → Int → Prop} {p t n : Nat} {L : Int} (h : tn_best E p t L (n + 1)) : ∃ q, tn_nx E t p q := by
  obtain ⟨q, c, he, hb⟩ := tn_best_sub h
  exact ⟨q, c, L - c, n, he, by rw [show c + (L - c) = L by omega]; exact h, hb⟩
theorem tn_best_0 {E : Nat → Nat → Int → Prop} {p t : Nat} {L : Int} (h : tn_best E p t L 0) : p = t ∧ L = 0 := h.1
/-- a best walk's points, one behind another -/
def tn_it (nx : Nat → Nat) : Nat → Nat → Nat
  | 0, p => p
  | s + 1, p => tn_it nx s (nx p)
theorem tn_it_s (nx : Nat → Nat) : ∀ (s p : Nat), tn_it nx (s + 1) p = nx (tn_it nx s p) := by
  intro s
  induction s with
  | zero => intro p; rfl
  | succ s ih => intro p; rw [tn_it, ih]; rfl
theorem tn_put_lo (nx : Nat → Nat) : ∀ (n a p : Nat) (rp : Nat → Nat) (j : Nat), j < a → tn_put nx a n p rp j = rp j := by
  intro n
  induction n with
  | zero => intro a p rp j _; rfl
  | succ n ih =>
    intro a p rp j hj
    rw [tn_put, ih _ _ _ _ (by omega)]
    simp [va_up, show ¬ j = a by omega]
theorem tn_put_hi (nx : Nat → Nat) : ∀ (n a p : Nat) (rp : Nat → Nat) (s : Nat), s < n → tn_put nx a n p rp (a + s) = tn_it nx (s + 1) p := by
  intro n
  induction n with
  | zero => intro a p rp s hs; exact absurd hs (by omega)
  | succ n ih =>
    intro a p rp s hs
    rw [tn_put]
    cases s with
    | zero =>
      rw [tn_put_lo _ _ _ _ _ _ (by omega)]
      simp [va_up, tn_it]
    | succ s =>
      rw [show a + (s + 1) = a + 1 + s by omega, ih _ _ _ _ (by omega)]
      rfl
/-- if nx gives the least next point of what is on a best walk to t, the points put are the best walk's -/
theorem tn_put_bp {E : Nat → Nat → Int → Prop} {t : Nat} {nx : Nat → Nat} (hnx : ∀ p L n, tn_best E p t L (n + 1) → tn_nxl E t p (nx p)) {n p a : Nat} {L : Int} (h : tn_best E p t L n) (rp : Nat → Nat) (ha : rp a = p) : tn_bp E t n p (tn_put nx (a + 1) n p rp) a := by
  have hb : ∀ s, s ≤ n → ∃ M, tn_best E (tn_it nx s p) t M (n - s) := by
    intro s
    induction s with
    | zero => intro _; exact ⟨L, h⟩
    | succ s ih =>
      intro hs
      obtain ⟨M, hM⟩ := ih (by omega)
      rw [show n - s = (n - (s + 1)) + 1 by omega] at hM
      obtain ⟨⟨c, L2, k, he, h1, h2⟩, -⟩ := hnx _ _ _ hM
      rw [tn_it_s]
      have := (tn_best_eq h1 hM).2
      exact ⟨L2, by rw [show n - (s + 1) = k by omega]; exact h2⟩
  have hat : ∀ s, s ≤ n → tn_put nx (a + 1) n p rp (a + s) = tn_it nx s p := by
    intro s hs
    cases s with
    | zero => rw [Nat.add_zero, tn_put_lo _ _ _ _ _ _ (by omega)]; exact ha
    | succ s => rw [show a + (s + 1) = a + 1 + s by omega, tn_put_hi _ _ _ _ _ _ (by omega)]
  refine ⟨by have := hat 0 (by omega); exact this, fun s hs => ?_⟩
  rw [show a + s + 1 = a + (s + 1) by omega, hat s (by omega), hat (s + 1) (by omega), tn_it_s]
  obtain ⟨M, hM⟩ := hb s (by omega)
  rw [show n - s = (n - (s + 1)) + 1 by omega] at hM
  exact hnx _ _ _ hM
/-- what the class's measuring says of a point, in one piece -/
def tn_mok (E : Nat → Nat → Int → Prop) (t : Nat) (d : tn_D) : Prop := ∀ p, p < 20 → (d.1 p = tn_MX ∧ ∀ n L, ¬ tn_wk E n p t L) ∨ (d.1 p ≠ tn_MX ∧ ∃ n, n ≤ 19 ∧ d.2 p = nI n ∧ tn_best E p t (d.1 p).toInt n)
theorem tn_mok_best {E : Nat → Nat → Int → Prop} {t : Nat} {d : tn_D} (h : tn_mok E t d) {p n : Nat} {L : Int} (hp : p < 20) (hb : tn_best E p t L n) : d.1 p ≠ tn_MX ∧ (d.1 p).toInt = L ∧ d.2 p = nI n ∧ n ≤ 19 := by
  rcases h p hp with ⟨-, q⟩ | ⟨q, m, hm, e, hb2⟩
  · exact absurd hb.1 (q _ _)
  · obtain ⟨e1, e2⟩ := tn_best_eq hb2 hb
    exact ⟨q, e1, by rw [e, e2], by omega⟩
/-- the class's next point is the least -/
theorem tn_nxt_ok {cnt : Nat} {fp sp : Nat → Nat} {mo : Nat → Int64} {on : Nat → Bool} {t : Nat} {d : tn_D} (g : tn_good cnt fp sp mo) (h : tn_mok (tn_E cnt fp sp mo on) t d) {p n : Nat} {L : Int} (hb : tn_best (tn_E cnt fp sp mo on) p t L (n + 1)) : tn_nxl (tn_E cnt fp sp mo on) t p (tn_nxt fp sp mo on d p cnt) := by
  have hp : p < 20 := by
    obtain ⟨q, c, he, -⟩ := tn_best_sub hb
    exact (tn_E_in g _ _ _ he).1
  have hmp := tn_mok_best h hp hb
  have hcond : ∀ k, k < cnt → fp k = p → on k = true → ((d.1 (sp k) ≠ tn_MX ∧ mo k + d.1 (sp k) = d.1 (fp k) ∧ d.2 (sp k) + 1 = d.2 (fp k)) ↔ ∃ (L2 : Int) (m : Nat), (mo k).toInt + L2 = L ∧ m + 1 = n + 1 ∧ tn_best (tn_E cnt fp sp mo on) (sp k) t L2 m) := by
    intro k hk hfk hon
    have hg := g.2 k hk
    constructor
    · rintro ⟨h1, h2, h3⟩
      rcases h (sp k) hg.2.1 with ⟨q, -⟩ | ⟨-, m, hm, e, hb2⟩
      · exact absurd q h1
      · have bd := tn_wk_bd (tn_E_bd g) m hb2.1
        rw [e, hfk, hmp.2.2.1, nI_1, nI_eq (by omega) (by omega)] at h3
        refine ⟨_, m, ?_, h3, hb2⟩
        rw [← hmp.2.1, ← hfk, ← h2]
        exact (tn_addI (by omega) (by omega) (by omega) (by omega)).symm
    · rintro ⟨L2, m, h1, h2, hb2⟩
      obtain ⟨k1, k2, k3, k4⟩ := tn_mok_best h hg.2.1 hb2
      have bd := tn_wk_bd (tn_E_bd g) m hb2.1
      refine ⟨k1, ?_, ?_⟩
      · apply Int64.toInt_inj.mp
        rw [tn_addI (by omega) (by omega) (by omega) (by omega), k2, hfk, hmp.2.1]; exact h1
      · rw [k3, hfk, hmp.2.2.1, nI_1, h2]
  -- the least over the constraints as far as k
  have key : ∀ k, k ≤ cnt → (∀ q, q < tn_nxt fp sp mo on d p k → ¬ ∃ j, j < k ∧ fp j = p ∧ sp j = q ∧ on j = true ∧ (d.1 (sp j) ≠ tn_MX ∧ mo j + d.1 (sp j) = d.1 (fp j) ∧ d.2 (sp j) + 1 = d.2 (fp j))) ∧
      (tn_nxt fp sp mo on d p k < 20 → ∃ j, j < k ∧ fp j = p ∧ sp j = tn_nxt fp sp mo on d p k ∧ on j = true ∧ (d.1 (sp j) ≠ tn_MX ∧ mo j + d.1 (sp j) = d.1 (fp j) ∧ d.2 (sp j) + 1 = d.2 (fp j))) := by
    intro k
    induction k with
    | zero => intro _; exact ⟨fun q _ ⟨j, hj, _⟩ => absurd hj (by omega), fun q => absurd q (by show ¬ (20 < 20); omega)⟩
    | succ k ih =>
      intro hk
      obtain ⟨i1, i2⟩ := ih (by omega)
      rw [tn_nxt]
      split
      · next hc =>
        obtain ⟨c1, c2, c3, c4⟩ := hc
        refine ⟨fun q hq ⟨j, hj, j1, j2, j3, j4⟩ => ?_, fun _ => ⟨k, by omega, c1, rfl, c3, c4⟩⟩
        rcases Nat.lt_or_ge j k with hjk | hjk
        · exact i1 q (by omega) ⟨j, hjk, j1, j2, j3, j4⟩
        · have : j = k := by omega
          subst this; omega
      · next hc =>
        refine ⟨fun q hq ⟨j, hj, j1, j2, j3, j4⟩ => ?_, fun hq => ?_⟩
        · rcases Nat.lt_or_ge j k with hjk | hjk
          · exact i1 q hq ⟨j, hjk, j1, j2, j3, j4⟩
          · have : j = k := by omega
            subst this
            exact hc ⟨j1, by omega, j3, j4⟩
        · obtain ⟨j, hj, j1, j2, j3, j4⟩ := i2 hq
          exact ⟨j, by omega, j1, j2, j3, j4⟩
  obtain ⟨k1, k2⟩ := key cnt (Nat.le_refl _)
  have hnx : ∀ q, tn_nx (tn_E cnt fp sp mo on) t p q → q < 20 ∧ ∃ j, j < cnt ∧ fp j = p ∧ sp j = q ∧ on j = true ∧ (d.1 (sp j) ≠ tn_MX ∧ mo j + d.1 (sp j) = d.1 (fp j) ∧ d.2 (sp j) + 1 = d.2 (fp j)) := by
    rintro q ⟨c, L2, m, ⟨j, hj, j1, j2, j3, j4⟩, hb1, hb2⟩
    obtain ⟨e1, e2⟩ := tn_best_eq hb1 hb
    subst j3
    exact ⟨(g.2 j hj).2.1, j, hj, j2, rfl, j1, (hcond j hj j2 j1).mpr ⟨L2, m, by rw [j4]; exact e1, e2, hb2⟩⟩
  obtain ⟨q0, hq0⟩ := tn_nx_ex hb
  obtain ⟨l0, j0⟩ := hnx q0 hq0
  have hlt : tn_nxt fp sp mo on d p cnt < 20 := by
    rcases Nat.lt_or_ge (tn_nxt fp sp mo on d p cnt) 20 with q | q
    · exact q
    · obtain ⟨j, a1, a2, a3, a4, a5⟩ := j0
      exact absurd ⟨j, a1, a2, a3, a4, a5⟩ (k1 q0 (by omega))
  obtain ⟨j, a1, a2, a3, a4, a5⟩ := k2 hlt
  refine ⟨?_, fun q' hq' => ?_⟩
  · obtain ⟨L2, m, b1, b2, b3⟩ := (hcond j a1 a2 a4).mp a5
    rw [← a3]
    refine ⟨(mo j).toInt, L2, m, ⟨j, a1, a4, a2, rfl, rfl⟩, ?_, b3⟩
    rw [b1, b2]; exact hb
  · rcases Nat.lt_or_ge q' (tn_nxt fp sp mo on d p cnt) with hl | hl
    · exact absurd (hnx q' hq').2 (k1 q' hl)
    · exact hl
/-- how many are on -/
def tn_cn (on : Nat → Bool) : Nat → Nat
  | 0 => 0
  | k + 1 => tn_cn on k + (if on k = true then 1 else 0)
def sp_steps (E : Nat → Nat → Int → Prop) (x y r : Int32) : Prop := (∃ (a b : Nat) (L : Int) (n : Nat), a < 20 ∧ b < 20 ∧ x = nI a ∧ y = nI b ∧ tn_best E a b L n ∧ r = nI n) ∨ ((∀ a b, a < 20 → b < 20 → x = nI a → y = nI b → ∀ n L, ¬ tn_wk E n a b L) ∧ r = -1)
def sp_bound (E : Nat → Nat → Int → Prop) (a b : Nat) (r : Int64) : Prop := (∃ (L : Int) (n : Nat), tn_best E a b L n ∧ r.toInt = L) ∨ ((∀ n L, ¬ tn_wk E n a b L) ∧ r = tn_MX)
def sp_earl (E : Nat → Nat → Int → Prop) (a : Nat) (r : Int64) : Prop := (∃ (L : Int) (n : Nat), tn_best E a 0 L n ∧ r.toInt = -L) ∨ ((∀ n L, ¬ tn_wk E n a 0 L) ∧ r = -9223372036854775808)
def sp_path (E : Nat → Nat → Int → Prop) (x y r : Int32) (rp : Nat → Nat) (rs : Nat) (rl : Int64) (rp' : Nat → Nat) (rs' : Nat) (rl' : Int64) : Prop :=
  (∃ (a b : Nat) (L : Int) (n : Nat), a < 20 ∧ b < 20 ∧ x = nI a ∧ y = nI b ∧ tn_best E a b L n ∧ n ≤ 19 ∧ r = nI (n + 1) ∧ rs' = n + 1 ∧ tn_bp E b n a rp' 0 ∧ rl'.toInt = L) ∨
  ((∀ a b, a < 20 → b < 20 → x = nI a → y = nI b → ∀ n L, ¬ tn_wk E n a b L) ∧ r = -1 ∧ rp' = rp ∧ rs' = rs ∧ rl' = rl)
def sp_ref (E : Nat → Nat → Int → Prop) (i j : Nat) (c : Int) (r : Int32) (rp : Nat → Nat) (rs : Nat) (rl : Int64) (rp' : Nat → Nat) (rs' : Nat) (rl' : Int64) : Prop :=
  (∃ (L : Int) (n : Nat), tn_best E j i L n ∧ L + c < 0 ∧ n ≤ 19 ∧ r = nI 1 ∧ rs' = n + 2 ∧ rp' 0 = i ∧ tn_bp E i n j rp' 1 ∧ rl'.toInt = L + c) ∨
  ((∀ n L, tn_wk E n j i L → 0 ≤ L + c) ∧ r = nI 0 ∧ rp' = rp ∧ rs' = rs ∧ rl' = rl)
def sp_slack (cnt : Nat) (fp sp : Nat → Nat) (mo : Nat → Int64) (on : Nat → Bool) (x : Int32) (r : Int64) : Prop :=
  (∃ (k : Nat) (L : Int) (n : Nat), k < cnt ∧ x = nI k ∧ on k = true ∧ tn_best (tn_E cnt fp sp mo on) (fp k) (sp k) L n ∧ r.toInt = (mo k).toInt - L) ∨ ((∀ k, k < cnt → x = nI k → on k = false) ∧ r = -1)
def sp_off (cnt : Nat) (on : Nat → Bool) (x r : Int32) (on' : Nat → Bool) : Prop :=
  (∃ k, k < cnt ∧ x = nI k ∧ on k = true ∧ r = nI 1 ∧ on' = va_up on k false) ∨ ((∀ k, k < cnt → x = nI k → on k = false) ∧ r = nI 0 ∧ on' = on)
def sp_rowAt (rp : Nat → Nat) (rs : Nat) (x r : Int32) : Prop := (∃ k, k < rs ∧ x = nI k ∧ r = nI (rp k)) ∨ ((∀ k, k < rs → x ≠ nI k) ∧ r = -1)
def sp_on (cnt : Nat) (fp sp : Nat → Nat) (mo : Nat → Int64) (on : Nat → Bool) (x r : Int32) (rp : Nat → Nat) (rs : Nat) (rl : Int64) (on' : Nat → Bool) (rp' : Nat → Nat) (rs' : Nat) (rl' : Int64) : Prop :=
  (∃ (k : Nat) (z : Int32), k < cnt ∧ x = nI k ∧ on k = false ∧ sp_ref (tn_E cnt fp sp mo on) (fp k) (sp k) (mo k).toInt z rp rs rl rp' rs' rl' ∧ ((z = nI 1 ∧ r = -2 ∧ on' = on) ∨ (z = nI 0 ∧ r = nI k ∧ on' = va_up on k true))) ∨
  ((∀ k, k < cnt → x = nI k → on k = true) ∧ r = -1 ∧ on' = on ∧ rp' = rp ∧ rs' = rs ∧ rl' = rl)
def sp_add (cnt : Nat) (fp sp : Nat → Nat) (mo : Nat → Int64) (on : Nat → Bool) (x y : Int32) (c : Int64) (r : Int32) (rp : Nat → Nat) (rs : Nat) (rl : Int64) (cnt' : Nat) (fp' sp' : Nat → Nat) (mo' : Nat → Int64) (on' : Nat → Bool) (rp' : Nat → Nat) (rs' : Nat) (rl' : Int64) : Prop :=
  (∃ (a b : Nat) (z : Int32), cnt < 120 ∧ a < 20 ∧ b < 20 ∧ a ≠ b ∧ x = nI a ∧ y = nI b ∧ -1000000000000 ≤ c.toInt ∧ c.toInt ≤ 1000000000000 ∧ sp_ref (tn_E cnt fp sp mo on) a b c.toInt z rp rs rl rp' rs' rl' ∧
    ((z = nI 1 ∧ r = -2 ∧ cnt' = cnt ∧ fp' = fp ∧ sp' = sp ∧ mo' = mo ∧ on' = on) ∨ (z = nI 0 ∧ r = nI cnt ∧ cnt' = cnt + 1 ∧ fp' = va_up fp cnt a ∧ sp' = va_up sp cnt b ∧ mo' = vp_updL mo cnt c ∧ on' = va_up on cnt true))) ∨
  ((cnt < 120 → ∀ a b, a < 20 → b < 20 → a ≠ b → x = nI a → y = nI b → -1000000000000 ≤ c.toInt → ¬ c.toInt ≤ 1000000000000) ∧ r = -1 ∧ cnt' = cnt ∧ fp' = fp ∧ sp' = sp ∧ mo' = mo ∧ on' = on ∧ rp' = rp ∧ rs' = rs ∧ rl' = rl)
end
section
/-! the class's own ways to what the calls answer -/
theorem tn_ms_ok {cnt : Nat} {fp sp : Nat → Nat} {mo : Nat → Int64} {on : Nat → Bool} {lf : Nat → Int64} {sf : Nat → Int32} {t : Nat} (g : tn_good cnt fp sp mo) (ok : tn_ok (tn_E cnt fp sp mo on)) (ht : t < 20) {u : tn_D} (hu : u = tn_ms cnt fp sp mo on lf sf t) : tn_mok (tn_E cnt fp sp mo on) t u := tn_meas g ok ht u hu
abbrev tn_fpP (cnt : Nat) (fp sp : Nat → Nat) (mo : Nat → Int64) (on : Nat → Bool) (lf : Nat → Int64) (sf : Nat → Int32) (x y r : Int32) (u : tn_D) : Prop :=
  (∃ a b, a < 20 ∧ b < 20 ∧ x = nI a ∧ y = nI b ∧ u = tn_ms cnt fp sp mo on lf sf b ∧ ((r = nI 0 ∧ u.1 a = tn_MX) ∨ (r = nI 1 ∧ u.1 a ≠ tn_MX))) ∨ ((∀ a b, a < 20 → b < 20 → ¬ (x = nI a ∧ y = nI b)) ∧ r = nI 0 ∧ u = (lf, sf))
theorem tn_fpN {cnt : Nat} {fp sp : Nat → Nat} {mo : Nat → Int64} {on : Nat → Bool} {lf : Nat → Int64} {sf : Nat → Int32} (g : tn_good cnt fp sp mo) (ok : tn_ok (tn_E cnt fp sp mo on)) {i j : Nat} (hi : i < 20) (hj : j < 20) {r : Int32} {u : tn_D} (h : tn_fpP cnt fp sp mo on lf sf (nI i) (nI j) r u) :
    tn_mok (tn_E cnt fp sp mo on) j u ∧ ((r = nI 0 ∧ u.1 i = tn_MX) ∨ (r = nI 1 ∧ u.1 i ≠ tn_MX)) := by
  rcases h with ⟨a, b, ha, hb, e1, e2, e3, e4⟩ | ⟨q, -⟩
  · have e1 := (nI_eq (by omega) (by omega)).mp e1
    have e2 := (nI_eq (by omega) (by omega)).mp e2
    subst e1; subst e2
    exact ⟨tn_ms_ok g ok hj e3, e4⟩
  · exact absurd ⟨rfl, rfl⟩ (q i j hi hj)
theorem tn_mok_f {E : Nat → Nat → Int → Prop} {t : Nat} {d : tn_D} (h : tn_mok E t d) {p : Nat} (hp : p < 20) (hm : d.1 p ≠ tn_MX) : ∃ n, n ≤ 19 ∧ d.2 p = nI n ∧ tn_best E p t (d.1 p).toInt n := by
  rcases h p hp with q | q
  · exact absurd q.1 hm
  · exact q.2
theorem tn_mok_n {E : Nat → Nat → Int → Prop} {t : Nat} {d : tn_D} (h : tn_mok E t d) {p : Nat} (hp : p < 20) (hm : d.1 p = tn_MX) : ∀ n L, ¬ tn_wk E n p t L := by
  rcases h p hp with q | q
  · exact q.2
  · exact absurd hm q.1
theorem tn_negI {a : Int64} (h : a < 0) : a.toInt < 0 := by
  have := Int64.lt_iff_toInt_lt.mp h
  simpa using this
theorem tn_nnegI {a : Int64} (h : ¬ a < 0) : 0 ≤ a.toInt := by
  rw [Int64.lt_iff_toInt_lt] at h
  have e : (0 : Int64).toInt = 0 := by decide
  rw [e] at h; omega
/-- not refused: there is no way, or the way isn't short enough -/
theorem tn_ref_no {cnt : Nat} {fp sp : Nat → Nat} {mo : Nat → Int64} {on : Nat → Bool} (g : tn_good cnt fp sp mo) {i j : Nat} (hj : j < 20) {c : Int64} (h1 : -1000000000000 ≤ c.toInt) (h2 : c.toInt ≤ 1000000000000) {u : tn_D} (hm : tn_mok (tn_E cnt fp sp mo on) i u) (h : u.1 j = tn_MX ∨ (u.1 j ≠ tn_MX ∧ ¬ u.1 j + c < 0)) :
    ∀ n L, tn_wk (tn_E cnt fp sp mo on) n j i L → 0 ≤ L + c.toInt := by
  intro n L w
  rcases h with h | ⟨h, k⟩
  · exact absurd w (tn_mok_n hm hj h n L)
  · obtain ⟨m, hm1, -, hb⟩ := tn_mok_f hm hj h
    have k := tn_nnegI k
    have bd := tn_wk_bd (tn_E_bd g) m hb.1
    rw [tn_addI (by omega) (by omega) (by omega) (by omega)] at k
    have := hb.2 _ _ w
    unfold tn_le at this; omega
theorem tn_ref_yes {cnt : Nat} {fp sp : Nat → Nat} {mo : Nat → Int64} {on : Nat → Bool} (g : tn_good cnt fp sp mo) {i j n0 : Nat} {c : Int64} (h1 : -1000000000000 ≤ c.toInt) (h2 : c.toInt ≤ 1000000000000) {u : tn_D} (hm : tn_mok (tn_E cnt fp sp mo on) i u) (hn0 : n0 ≤ 19) (hb : tn_best (tn_E cnt fp sp mo on) j i (u.1 j).toInt n0) (hc : u.1 j + c < 0) (rp : Nat → Nat) (rs : Nat) (rl : Int64) {v : (Nat → Nat) × Nat}
    (hv : v = (tn_put (fun q => tn_nxt fp sp mo on (u.1, u.2) q cnt) (0 + 1 + 1) n0 j (va_up (va_up rp 0 i) (0 + 1) j), 0 + 1 + 1 + n0)) :
    sp_ref (tn_E cnt fp sp mo on) i j c.toInt (nI 1) rp rs rl v.1 v.2 (u.1 j + c) := by
  have bd := tn_wk_bd (tn_E_bd g) n0 hb.1
  have e := tn_addI (a := u.1 j) (b := c) (by omega) (by omega) (by omega) (by omega)
  have hn := tn_negI hc
  rw [e] at hn
  subst hv
  refine Or.inl ⟨_, n0, hb, hn, hn0, rfl, by show 0 + 1 + 1 + n0 = n0 + 2; omega, ?_, ?_, e⟩
  · show tn_put _ (0 + 1 + 1) n0 j (va_up (va_up rp 0 i) (0 + 1) j) 0 = i
    rw [tn_put_lo _ _ _ _ _ _ (by omega)]
    simp [va_up]
  · exact tn_put_bp (fun p L n hb => tn_nxt_ok g hm hb) hb _ (by simp [va_up])
theorem tn_path_yes {cnt : Nat} {fp sp : Nat → Nat} {mo : Nat → Int64} {on : Nat → Bool} (g : tn_good cnt fp sp mo) {a b n0 : Nat} (ha : a < 20) (hb : b < 20) {u : tn_D} (hm : tn_mok (tn_E cnt fp sp mo on) b u) (hn0 : n0 ≤ 19) (hbe : tn_best (tn_E cnt fp sp mo on) a b (u.1 a).toInt n0) (rp : Nat → Nat) (rs : Nat) (rl : Int64) {v : (Nat → Nat) × Nat}
    (hv : v = (tn_put (fun q => tn_nxt fp sp mo on (u.1, u.2) q cnt) (0 + 1) n0 a (va_up rp 0 a), 0 + 1 + n0)) :
    sp_path (tn_E cnt fp sp mo on) (nI a) (nI b) (nI v.2) rp rs rl v.1 v.2 (u.1 a) := by
  subst hv
  have e : 0 + 1 + n0 = n0 + 1 := by omega
  refine Or.inl ⟨a, b, _, n0, ha, hb, rfl, rfl, hbe, hn0, by show nI (0 + 1 + n0) = _; rw [e], e, ?_, rfl⟩
  exact tn_put_bp (a := 0) (fun p L n hb => tn_nxt_ok g hm hb) hbe _ (by simp [va_up])
theorem tn_cn_le (on : Nat → Bool) : ∀ k, tn_cn on k ≤ k := by
  intro k
  induction k with
  | zero => exact Nat.le_refl 0
  | succ k ih => rw [tn_cn]; split <;> omega
theorem tn_cn_pos {on : Nat → Bool} : ∀ {cnt k : Nat}, k < cnt → on k = true → 1 ≤ tn_cn on cnt := by
  intro cnt
  induction cnt with
  | zero => intro k h; exact absurd h (by omega)
  | succ n ih =>
    intro k h ho
    rw [tn_cn]
    rcases Nat.lt_or_ge k n with q | q
    · have := ih q ho; omega
    · have : k = n := by omega
      subst this
      rw [if_pos ho]; omega
theorem tn_cn_far {on : Nat → Bool} {b : Bool} : ∀ {cnt k : Nat}, cnt ≤ k → tn_cn (va_up on k b) cnt = tn_cn on cnt := by
  intro cnt
  induction cnt with
  | zero => intro k _; rfl
  | succ n ih =>
    intro k h
    rw [tn_cn, tn_cn, ih (by omega)]
    simp [va_up, show ¬ n = k by omega]
theorem tn_cn_off {on : Nat → Bool} : ∀ {cnt k : Nat}, k < cnt → on k = true → tn_cn (va_up on k false) cnt + 1 = tn_cn on cnt := by
  intro cnt
  induction cnt with
  | zero => intro k h; exact absurd h (by omega)
  | succ n ih =>
    intro k h ho
    rw [tn_cn, tn_cn]
    rcases Nat.lt_or_ge k n with q | q
    · have := ih q ho
      simp only [va_up, show ¬ n = k by omega, if_false]
      omega
    · have : k = n := by omega
      subst this
      rw [tn_cn_far (Nat.le_refl _)]
      simp [va_up, ho]
theorem tn_cn_on {on : Nat → Bool} : ∀ {cnt k : Nat}, k < cnt → on k = false → tn_cn (va_up on k true) cnt = tn_cn on cnt + 1 := by
  intro cnt
  induction cnt with
  | zero => intro k h; exact absurd h (by omega)
  | succ n ih =>
    intro k h ho
    rw [tn_cn, tn_cn]
    rcases Nat.lt_or_ge k n with q | q
    · have := ih q ho
      simp only [va_up, show ¬ n = k by omega, if_false]
      omega
    · have : k = n := by omega
      subst this
      rw [tn_cn_far (Nat.le_refl _)]
      simp [va_up, ho]
theorem tn_slack_yes {cnt : Nat} {fp sp : Nat → Nat} {mo : Nat → Int64} {on : Nat → Bool} (g : tn_good cnt fp sp mo) (ok : tn_ok (tn_E cnt fp sp mo on)) {k : Nat} (hk : k < cnt) (ho : on k = true) {u : tn_D} (hm : tn_mok (tn_E cnt fp sp mo on) (sp k) u) : sp_slack cnt fp sp mo on (nI k) (mo k - u.1 (fp k)) := by
  have hg := g.2 k hk
  have hE : tn_E cnt fp sp mo on (fp k) (sp k) (mo k).toInt := ⟨k, hk, ho, rfl, rfl, rfl⟩
  rcases hm (fp k) hg.1 with ⟨-, q⟩ | ⟨-, n, hn, -, hb⟩
  · exact absurd (tn_wk_one hE) (q _ _)
  · have bd := tn_wk_bd (tn_E_bd g) n hb.1
    exact Or.inl ⟨k, _, n, hk, rfl, ho, hb, tn_subI (by omega) (by omega) (by omega) (by omega)⟩
end
section
set_option maxHeartbeats 4000000 in
set_option maxRecDepth 100000 in
/-- isPoint(x): whether x is one of 0 .. 19 -/
theorem cX0_isPoint_ok (l : Launch) (dC : Nat → ClassId) (dI : Nat → Nat → Nat) (h a1 a2 a3 a4 a5 a6 a7 : Nat) (cI cL cZ : ClassId) (cnt onc : Nat) (fp sp : Nat → Nat) (mo : Nat → Int64) (on : Nat → Bool) (lf : Nat → Int64) (sf : Nat → Int32) (rp : Nat → Nat) (rs : Nat) (rl : Int64) (sz : Nat) (x : Int32) : Met l yX0_isPoint wsX0_isPoint ({ frames := 0, cells := 0, slots := 0, locals := 0 }) (va_Pc [.int x] (tn_Pre dC dI (tn_tys cI cL cZ) (tn_ws h a1 a2 a3 a4 a5 a6 a7 cI cL cZ cnt onc fp sp mo on lf sf rp rs rl) sz)) (va_Qi (S := Unit) (fun r _ => (r = nI 1 ∧ ∃ j, j < 20 ∧ x = nI j) ∨ (r = nI 0 ∧ ∀ j, j < 20 → x ≠ nI j)) (fun u t => tn_at dC dI (tn_tys cI cL cZ) (va_A (tn_ws h a1 a2 a3 a4 a5 a6 a7 cI cL cZ cnt onc fp sp mo on lf sf rp rs rl) sz) (tn_ws h a1 a2 a3 a4 a5 a6 a7 cI cL cZ cnt onc fp sp mo on lf sf rp rs rl) t) (va_A (tn_ws h a1 a2 a3 a4 a5 a6 a7 cI cL cZ cnt onc fp sp mo on lf sf rp rs rl) sz)) 0 0 (va_A (tn_ws h a1 a2 a3 a4 a5 a6 a7 cI cL cZ cnt onc fp sp mo on lf sf rp rs rl) sz) := by
  refine Met.ofW (cc := cX0_isPoint) (maxL := 1) (ret := (some .boolean)) (by decide) rfl ?_
  intro p e s m args below meth c s₁ B hml hv
  obtain ⟨rfl, hsz, hP, hK, hD0⟩ := hv
  have hx := B.exec
  have hb := B.bytes
  have hr := B.returns
  have hts := atoms_spec (ws := wsX0_isPoint) B.pre
  have hown : s.vm.findClass RX0 = some m.cls := findClass_of_methodNamed B.named
  have hlocks := B.notSynchronized
  subst hsz
  have hD := hD0.self (sz := s.heap.size)
  generalize hAe : va_A (tn_ws h a1 a2 a3 a4 a5 a6 a7 cI cL cZ cnt onc fp sp mo on lf sf rp rs rl) s.heap.size = A at hD ⊢
  have hA : ∀ q : Nat, s.heap.size ≤ q → A q := fun q h => by rw [← hAe]; exact Or.inr h
  have hS : va_S A s.heap s.heap [] := va_S.rf
  have hl := lv_entry ([.int x]) (n := 1) (Nat.le_of_ble_eq_true rfl)
  rw [lg_entry_eq]
  generalize (lg_sl ([.int x]) ++ List.replicate (1 - (lg_sl ([.int x])).length) Slot.unset).toArray = ls at hl ⊢
  have hl : lv_has ls 1 [(0, .int x)] := hl
  refine lv_iload_n hx hb dX0_isPoint_0 rfl (lv_at hl 0 rfl) ?_
  refine lv_if_lt (tgt := 14) hx hb dX0_isPoint_1 (by decide) (fun c_1 => ?_) (fun c_1 => ?_)
  · skip
    refine lv_iconst (v := nI 0) hx hb dX0_isPoint_14 (by decide) ?_
    exact W.zret (v := nI 0) hx hb hr rfl (fun t ht hW => ⟨⟨nI 0, (), rfl, Or.inr ⟨rfl, tn_ix2 c_1 (by decide)⟩, by rw [ht]; exact hP, va_K.moved hW.alike hK, hD⟩, hS.F ht⟩) hS.2.2 dX0_isPoint_15
  · skip
    refine lv_iload_n hx hb dX0_isPoint_4 rfl (lv_at hl 0 rfl) ?_
    refine lv_bipush (v := nI 20) hx hb dX0_isPoint_5 (by decide) ?_
    refine lv_icmp_ge (tgt := 14) hx hb dX0_isPoint_7 (by decide) (fun c_7 => ?_) (fun c_7 => ?_)
    · skip
      refine lv_iconst (v := nI 0) hx hb dX0_isPoint_14 (by decide) ?_
      exact W.zret (v := nI 0) hx hb hr rfl (fun t ht hW => ⟨⟨nI 0, (), rfl, Or.inr ⟨rfl, tn_ix3 c_7 (by decide)⟩, by rw [ht]; exact hP, va_K.moved hW.alike hK, hD⟩, hS.F ht⟩) hS.2.2 dX0_isPoint_15
    · skip
      refine lv_iconst (v := nI 1) hx hb dX0_isPoint_10 (by decide) ?_
      refine lv_goto (tgt := 15) hx hb dX0_isPoint_11 (by decide) ?_
      exact W.zret (v := nI 1) hx hb hr rfl (fun t ht hW => ⟨⟨nI 1, (), rfl, Or.inl ⟨rfl, tn_ix1 c_1 c_7 (by decide)⟩, by rw [ht]; exact hP, va_K.moved hW.alike hK, hD⟩, hS.F ht⟩) hS.2.2 dX0_isPoint_15
set_option maxHeartbeats 4000000 in
set_option maxRecDepth 100000 in
/-- isNumber(x): whether x is the number of a constraint -/
theorem cX0_isNumber_ok (l : Launch) (dC : Nat → ClassId) (dI : Nat → Nat → Nat) (h a1 a2 a3 a4 a5 a6 a7 : Nat) (cI cL cZ : ClassId) (cnt onc : Nat) (fp sp : Nat → Nat) (mo : Nat → Int64) (on : Nat → Bool) (lf : Nat → Int64) (sf : Nat → Int32) (rp : Nat → Nat) (rs : Nat) (rl : Int64) (sz : Nat) (hc : cnt ≤ 120) (x : Int32) : Met l yX0_isNumber wsX0_isNumber ({ frames := 0, cells := 0, slots := 0, locals := 0 }) (va_Pc [.ref h, .int x] (tn_Pre dC dI (tn_tys cI cL cZ) (tn_ws h a1 a2 a3 a4 a5 a6 a7 cI cL cZ cnt onc fp sp mo on lf sf rp rs rl) sz)) (va_Qi (S := Unit) (fun r _ => (r = nI 1 ∧ ∃ j, j < cnt ∧ x = nI j) ∨ (r = nI 0 ∧ ∀ j, j < cnt → x ≠ nI j)) (fun u t => tn_at dC dI (tn_tys cI cL cZ) (va_A (tn_ws h a1 a2 a3 a4 a5 a6 a7 cI cL cZ cnt onc fp sp mo on lf sf rp rs rl) sz) (tn_ws h a1 a2 a3 a4 a5 a6 a7 cI cL cZ cnt onc fp sp mo on lf sf rp rs rl) t) (va_A (tn_ws h a1 a2 a3 a4 a5 a6 a7 cI cL cZ cnt onc fp sp mo on lf sf rp rs rl) sz)) 0 0 (va_A (tn_ws h a1 a2 a3 a4 a5 a6 a7 cI cL cZ cnt onc fp sp mo on lf sf rp rs rl) sz) := by
  refine Met.ofW (cc := cX0_isNumber) (maxL := 2) (ret := (some .boolean)) (by decide) rfl ?_
  intro p e s m args below meth c s₁ B hml hv
  obtain ⟨rfl, hsz, hP, hK, hD0⟩ := hv
  have hx := B.exec
  have hb := B.bytes
  have hr := B.returns
  have hts := atoms_spec (ws := wsX0_isNumber) B.pre
  have hown : s.vm.findClass RX0 = some m.cls := findClass_of_methodNamed B.named
  have hlocks := B.notSynchronized
  subst hsz
  have hD := hD0.self (sz := s.heap.size)
  generalize hAe : va_A (tn_ws h a1 a2 a3 a4 a5 a6 a7 cI cL cZ cnt onc fp sp mo on lf sf rp rs rl) s.heap.size = A at hD ⊢
  have hA : ∀ q : Nat, s.heap.size ≤ q → A q := fun q h => by rw [← hAe]; exact Or.inr h
  have hS : va_S A s.heap s.heap [] := va_S.rf
  have hl := lv_entry ([.ref h, .int x]) (n := 2) (Nat.le_of_ble_eq_true rfl)
  rw [lg_entry_eq]
  generalize (lg_sl ([.ref h, .int x]) ++ List.replicate (2 - (lg_sl ([.ref h, .int x])).length) Slot.unset).toArray = ls at hl ⊢
  have hl : lv_has ls 2 [(0, .ref h), (1, .int x)] := hl
  have kf33 := hts (.fieldLink RX0 33 "TimeNet" "count" "I") (by decide +kernel)
  have hin : ∀ w ∈ u_ws RX0 TX0 11, w ∈ wsX0_isNumber := by decide +kernel
  refine lv_iload_n hx hb dX0_isNumber_0 rfl (lv_at hl 1 rfl) ?_
  refine lv_if_lt (tgt := 16) hx hb dX0_isNumber_1 (by decide) (fun c_1 => ?_) (fun c_1 => ?_)
  · skip
    refine lv_iconst (v := nI 0) hx hb dX0_isNumber_16 (by decide) ?_
    exact W.zret (v := nI 0) hx hb hr rfl (fun t ht hW => ⟨⟨nI 0, (), rfl, Or.inr ⟨rfl, tn_ix2 c_1 (by omega)⟩, by rw [ht]; exact hP, va_K.moved hW.alike hK, hD⟩, hS.F ht⟩) hS.2.2 dX0_isNumber_17
  · skip
    refine lv_iload_n hx hb dX0_isNumber_4 rfl (lv_at hl 1 rfl) ?_
    refine lv_aload_n hx hb dX0_isNumber_5 rfl (lv_at hl 0 rfl) ?_
    refine va_get (D := (dC, dI)) (ci := 0) (v := .int (nI cnt)) (C := RX0) (T := TX0) (N := 11) hx hb hts hin hown hK hP 0 rfl rfl 4 (by decide) kf33 (fun _ h9 => h9) rfl dX0_isNumber_6 ?_
    refine lv_icmp_ge (tgt := 16) hx hb dX0_isNumber_9 (by decide) (fun c_9 => ?_) (fun c_9 => ?_)
    · skip
      refine lv_iconst (v := nI 0) hx hb dX0_isNumber_16 (by decide) ?_
      exact W.zret (v := nI 0) hx hb hr rfl (fun t ht hW => ⟨⟨nI 0, (), rfl, Or.inr ⟨rfl, tn_ix3 c_9 (by omega)⟩, by rw [ht]; exact hP, va_K.moved hW.alike hK, hD⟩, hS.F ht⟩) hS.2.2 dX0_isNumber_17
    · skip
      refine lv_iconst (v := nI 1) hx hb dX0_isNumber_12 (by decide) ?_
      refine lv_goto (tgt := 17) hx hb dX0_isNumber_13 (by decide) ?_
      exact W.zret (v := nI 1) hx hb hr rfl (fun t ht hW => ⟨⟨nI 1, (), rfl, Or.inl ⟨rfl, tn_ix1 c_1 c_9 (by omega)⟩, by rw [ht]; exact hP, va_K.moved hW.alike hK, hD⟩, hS.F ht⟩) hS.2.2 dX0_isNumber_17
set_option maxHeartbeats 4000000 in
set_option maxRecDepth 100000 in
/-- improveBy(k): one constraint -/
theorem cX0_improveBy_ok (l : Launch) (dC : Nat → ClassId) (dI : Nat → Nat → Nat) (h a1 a2 a3 a4 a5 a6 a7 : Nat) (cI cL cZ : ClassId) (cnt onc : Nat) (fp sp : Nat → Nat) (mo : Nat → Int64) (on : Nat → Bool) (lf : Nat → Int64) (sf : Nat → Int32) (rp : Nat → Nat) (rs : Nat) (rl : Int64) (sz : Nat) (g : tn_good cnt fp sp mo) (k : Nat) (hk : k < cnt) : Met l yX0_improveBy wsX0_improveBy ({ frames := 0, cells := 0, slots := 0, locals := 0 }) (va_Pc [.ref h, .int (nI k)] (tn_Pre dC dI (tn_tys cI cL cZ) (tn_ws h a1 a2 a3 a4 a5 a6 a7 cI cL cZ cnt onc fp sp mo on lf sf rp rs rl) sz)) (va_Qi (S := tn_D) (fun r u => (tn_imp fp sp mo k (lf, sf) ∧ r = nI 1 ∧ u = tn_stp fp sp mo k (lf, sf)) ∨ (¬ tn_imp fp sp mo k (lf, sf) ∧ r = nI 0 ∧ u = (lf, sf))) (fun u t => tn_at dC dI (tn_tys cI cL cZ) (va_A (tn_ws h a1 a2 a3 a4 a5 a6 a7 cI cL cZ cnt onc fp sp mo on lf sf rp rs rl) sz) (tn_ws h a1 a2 a3 a4 a5 a6 a7 cI cL cZ cnt onc fp sp mo on u.1 u.2 rp rs rl) t) (va_A (tn_ws h a1 a2 a3 a4 a5 a6 a7 cI cL cZ cnt onc fp sp mo on lf sf rp rs rl) sz)) 0 0 (va_A (tn_ws h a1 a2 a3 a4 a5 a6 a7 cI cL cZ cnt onc fp sp mo on lf sf rp rs rl) sz) := by
  refine Met.ofW (cc := cX0_improveBy) (maxL := 8) (ret := (some .boolean)) (by decide) rfl ?_
  intro p e s m args below meth c s₁ B hml hv
  obtain ⟨rfl, hsz, hP, hK, hD0⟩ := hv
  have hx := B.exec
  have hb := B.bytes
  have hr := B.returns
  have hts := atoms_spec (ws := wsX0_improveBy) B.pre
  have hown : s.vm.findClass RX0 = some m.cls := findClass_of_methodNamed B.named
  have hlocks := B.notSynchronized
  subst hsz
  have hD := hD0.self (sz := s.heap.size)
  generalize hAe : va_A (tn_ws h a1 a2 a3 a4 a5 a6 a7 cI cL cZ cnt onc fp sp mo on lf sf rp rs rl) s.heap.size = A at hD ⊢
  have hA : ∀ q : Nat, s.heap.size ≤ q → A q := fun q h => by rw [← hAe]; exact Or.inr h
  have hS : va_S A s.heap s.heap [] := va_S.rf
  have hl := lv_entry ([.ref h, .int (nI k)]) (n := 8) (Nat.le_of_ble_eq_true rfl)
  rw [lg_entry_eq]
  generalize (lg_sl ([.ref h, .int (nI k)]) ++ List.replicate (8 - (lg_sl ([.ref h, .int (nI k)])).length) Slot.unset).toArray = ls at hl ⊢
  have hl : lv_has ls 8 [(0, .ref h), (1, .int (nI k))] := hl
  have kf9 := hts (.fieldLink RX0 9 "TimeNet" "firstPoint" "[I") (by decide +kernel)
  have kf13 := hts (.fieldLink RX0 13 "TimeNet" "secondPoint" "[I") (by decide +kernel)
  have kf24 := hts (.fieldLink RX0 24 "TimeNet" "lengthFrom" "[J") (by decide +kernel)
  have kc75 := hts (.constantLong RX0 75 (9223372036854775807)) (by decide +kernel)
  have kf16 := hts (.fieldLink RX0 16 "TimeNet" "most" "[J") (by decide +kernel)
  have kf27 := hts (.fieldLink RX0 27 "TimeNet" "stepsFrom" "[I") (by decide +kernel)
  have hin : ∀ w ∈ u_ws RX0 TX0 11, w ∈ wsX0_improveBy := by decide +kernel
  have hk0 := (g.2 k hk).1
  have hk1 := (g.2 k hk).2.1
  have hc := g.1
  refine lv_aload_n hx hb dX0_improveBy_0 rfl (lv_at hl 0 rfl) ?_
  refine va_get (D := (dC, dI)) (ci := 0) (v := .ref a1) (C := RX0) (T := TX0) (N := 11) hx hb hts hin hown hK hP 0 rfl rfl 0 (by decide) kf9 (fun _ h9 => h9) rfl dX0_improveBy_1 ?_
  refine lv_iload_n hx hb dX0_improveBy_4 rfl (lv_at hl 1 rfl) ?_
  refine tn_iald (i := k) (v := nI (fp k)) hx hb hK hP 1 0 rfl rfl (by omega) (by decide) rfl dX0_improveBy_5 ?_
  refine lv_istore_n (lv' := [(2, .int (nI (fp k))), (0, .ref h), (1, .int (nI k))]) hx hb dX0_improveBy_6 rfl hl (by decide) rfl (fun ls hl => ?_)
  refine lv_aload_n hx hb dX0_improveBy_7 rfl (lv_at hl 1 rfl) ?_
  refine va_get (D := (dC, dI)) (ci := 0) (v := .ref a2) (C := RX0) (T := TX0) (N := 11) hx hb hts hin hown hK hP 0 rfl rfl 1 (by decide) kf13 (fun _ h9 => h9) rfl dX0_improveBy_8 ?_
  refine lv_iload_n hx hb dX0_improveBy_11 rfl (lv_at hl 2 rfl) ?_
  refine tn_iald (i := k) (v := nI (sp k)) hx hb hK hP 2 0 rfl rfl (by omega) (by decide) rfl dX0_improveBy_12 ?_
  refine lv_istore_n (lv' := [(3, .int (nI (sp k))), (2, .int (nI (fp k))), (0, .ref h), (1, .int (nI k))]) hx hb dX0_improveBy_13 rfl hl (by decide) rfl (fun ls hl => ?_)
  refine lv_aload_n hx hb dX0_improveBy_14 rfl (lv_at hl 2 rfl) ?_
  refine va_get (D := (dC, dI)) (ci := 0) (v := .ref a5) (C := RX0) (T := TX0) (N := 11) hx hb hts hin hown hK hP 0 rfl rfl 6 (by decide) kf24 (fun _ h9 => h9) rfl dX0_improveBy_15 ?_
  refine lv_iload_n hx hb dX0_improveBy_18 rfl (lv_at hl 0 rfl) ?_
  refine tn_lald (i := (sp k)) (v := lf (sp k)) hx hb hK hP 5 1 rfl rfl (by omega) (by decide) rfl dX0_improveBy_19 ?_
  refine lv_ldc2 (v := 9223372036854775807) hx hb hown kc75 dX0_improveBy_20 ?_
  refine tn_lc_ne (x := (lf (sp k))) (y := 9223372036854775807) (tgt := 29) hx hb dX0_improveBy_23 dX0_improveBy_24 (by decide) (fun c_23 => ?_) (fun c_23 => ?_)
  · skip
    refine lv_aload_n hx hb dX0_improveBy_29 rfl (lv_at hl 2 rfl) ?_
    refine va_get (D := (dC, dI)) (ci := 0) (v := .ref a3) (C := RX0) (T := TX0) (N := 11) hx hb hts hin hown hK hP 0 rfl rfl 2 (by decide) kf16 (fun _ h9 => h9) rfl dX0_improveBy_30 ?_
    refine lv_iload_n hx hb dX0_improveBy_33 rfl (lv_at hl 3 rfl) ?_
    refine tn_lald (i := k) (v := mo k) hx hb hK hP 3 1 rfl rfl (by omega) (by decide) rfl dX0_improveBy_34 ?_
    refine lv_aload_n hx hb dX0_improveBy_35 rfl (lv_at hl 2 rfl) ?_
    refine va_get (D := (dC, dI)) (ci := 0) (v := .ref a5) (C := RX0) (T := TX0) (N := 11) hx hb hts hin hown hK hP 0 rfl rfl 6 (by decide) kf24 (fun _ h9 => h9) rfl dX0_improveBy_36 ?_
    refine lv_iload_n hx hb dX0_improveBy_39 rfl (lv_at hl 0 rfl) ?_
    refine tn_lald (i := (sp k)) (v := lf (sp k)) hx hb hK hP 5 1 rfl rfl (by omega) (by decide) rfl dX0_improveBy_40 ?_
    refine lv_ladd hx hb dX0_improveBy_41 ?_
    refine lv_lstore (lv' := [(4, .long ((mo k) + (lf (sp k)))), (3, .int (nI (sp k))), (2, .int (nI (fp k))), (0, .ref h), (1, .int (nI k))]) hx hb dX0_improveBy_42 hl (by decide) rfl (fun ls hl => ?_)
    refine lv_aload_n hx hb dX0_improveBy_44 rfl (lv_at hl 3 rfl) ?_
    refine va_get (D := (dC, dI)) (ci := 0) (v := .ref a6) (C := RX0) (T := TX0) (N := 11) hx hb hts hin hown hK hP 0 rfl rfl 7 (by decide) kf27 (fun _ h9 => h9) rfl dX0_improveBy_45 ?_
    refine lv_iload_n hx hb dX0_improveBy_48 rfl (lv_at hl 1 rfl) ?_
    refine tn_iald (i := (sp k)) (v := sf (sp k)) hx hb hK hP 6 0 rfl rfl (by omega) (by decide) rfl dX0_improveBy_49 ?_
    refine lv_iconst (v := nI 1) hx hb dX0_improveBy_50 (by decide) ?_
    refine lv_iadd hx hb dX0_improveBy_51 ?_
    refine lv_istore (lv' := [(6, .int ((sf (sp k)) + (nI 1))), (4, .long ((mo k) + (lf (sp k)))), (3, .int (nI (sp k))), (2, .int (nI (fp k))), (0, .ref h), (1, .int (nI k))]) hx hb dX0_improveBy_52 hl (by decide) rfl (fun ls hl => ?_)
    refine lv_lload hx hb dX0_improveBy_54 (lv_at hl 1 rfl) ?_
    refine lv_aload_n hx hb dX0_improveBy_56 rfl (lv_at hl 4 rfl) ?_
    refine va_get (D := (dC, dI)) (ci := 0) (v := .ref a5) (C := RX0) (T := TX0) (N := 11) hx hb hts hin hown hK hP 0 rfl rfl 6 (by decide) kf24 (fun _ h9 => h9) rfl dX0_improveBy_57 ?_
    refine lv_iload_n hx hb dX0_improveBy_60 rfl (lv_at hl 3 rfl) ?_
    refine tn_lald (i := (fp k)) (v := lf (fp k)) hx hb hK hP 5 1 rfl rfl (by omega) (by decide) rfl dX0_improveBy_61 ?_
    refine tn_lc_lt (x := ((mo k) + (lf (sp k)))) (y := (lf (fp k))) (tgt := 89) hx hb dX0_improveBy_62 dX0_improveBy_63 (by decide) (fun c_62 => ?_) (fun c_62 => ?_)
    · skip
      refine lv_iconst (v := nI 1) hx hb dX0_improveBy_89 (by decide) ?_
      refine lv_goto (tgt := 94) hx hb dX0_improveBy_90 (by decide) ?_
      refine lv_istore (lv' := [(7, .int (nI 1)), (6, .int ((sf (sp k)) + (nI 1))), (4, .long ((mo k) + (lf (sp k)))), (3, .int (nI (sp k))), (2, .int (nI (fp k))), (0, .ref h), (1, .int (nI k))]) hx hb dX0_improveBy_94 hl (by decide) rfl (fun ls hl => ?_)
      refine lv_iload hx hb dX0_improveBy_96 (lv_at hl 0 rfl) ?_
      refine lv_if_eq (tgt := 117) hx hb dX0_improveBy_98 (by decide) (fun c_98 => ?_) (fun c_98 => ?_)
      · skip
        exact absurd c_98 (by decide)
      · skip
        refine lv_aload_n hx hb dX0_improveBy_101 rfl (lv_at hl 5 rfl) ?_
        refine va_get (D := (dC, dI)) (ci := 0) (v := .ref a5) (C := RX0) (T := TX0) (N := 11) hx hb hts hin hown hK hP 0 rfl rfl 6 (by decide) kf24 (fun _ h9 => h9) rfl dX0_improveBy_102 ?_
        refine lv_iload_n hx hb dX0_improveBy_105 rfl (lv_at hl 4 rfl) ?_
        refine lv_lload hx hb dX0_improveBy_106 (lv_at hl 2 rfl) ?_
        refine tn_last (i := (fp k)) (f' := (vp_updL lf (fp k) ((mo k) + (lf (sp k))))) hx hb hK hP hD hS 5 1 rfl rfl (by omega) (by decide) rfl dX0_improveBy_108 (fun H locs hP hD hS => ?_)
        have hP : va_P (dC, dI) vwCl (tn_ws h a1 a2 a3 a4 a5 a6 a7 cI cL cZ cnt onc fp sp mo on (vp_updL lf (fp k) ((mo k) + (lf (sp k)))) sf rp rs rl) H := hP
        have hD : va_D A (tn_ws h a1 a2 a3 a4 a5 a6 a7 cI cL cZ cnt onc fp sp mo on (vp_updL lf (fp k) ((mo k) + (lf (sp k)))) sf rp rs rl) := hD
        refine lv_aload_n hx hb dX0_improveBy_109 rfl (lv_at hl 5 rfl) ?_
        refine va_get (D := (dC, dI)) (ci := 0) (v := .ref a6) (C := RX0) (T := TX0) (N := 11) hx hb hts hin hown hK hP 0 rfl rfl 7 (by decide) kf27 (fun _ h9 => h9) rfl dX0_improveBy_110 ?_
        refine lv_iload_n hx hb dX0_improveBy_113 rfl (lv_at hl 4 rfl) ?_
        refine lv_iload hx hb dX0_improveBy_114 (lv_at hl 1 rfl) ?_
        refine tn_iast (i := (fp k)) (f' := (upd sf (fp k) ((sf (sp k)) + (nI 1)))) hx hb hK hP hD hS 6 0 rfl rfl (by omega) (by decide) rfl dX0_improveBy_116 (fun H locs hP hD hS => ?_)
        have hP : va_P (dC, dI) vwCl (tn_ws h a1 a2 a3 a4 a5 a6 a7 cI cL cZ cnt onc fp sp mo on (vp_updL lf (fp k) ((mo k) + (lf (sp k)))) (upd sf (fp k) ((sf (sp k)) + (nI 1))) rp rs rl) H := hP
        have hD : va_D A (tn_ws h a1 a2 a3 a4 a5 a6 a7 cI cL cZ cnt onc fp sp mo on (vp_updL lf (fp k) ((mo k) + (lf (sp k)))) (upd sf (fp k) ((sf (sp k)) + (nI 1))) rp rs rl) := hD
        refine lv_iload hx hb dX0_improveBy_117 (lv_at hl 0 rfl) ?_
        exact W.zret (v := nI 1) hx hb hr rfl (fun t ht hW => ⟨⟨nI 1, (vp_updL lf (fp k) ((mo k) + (lf (sp k))), upd sf (fp k) ((sf (sp k)) + (nI 1))), rfl, Or.inl ⟨⟨c_23, Or.inl c_62⟩, rfl, rfl⟩, by rw [ht]; exact hP, va_K.moved hW.alike hK, hD⟩, hS.F ht⟩) hS.2.2 dX0_improveBy_119
    · skip
      refine lv_lload hx hb dX0_improveBy_66 (lv_at hl 1 rfl) ?_
      refine lv_aload_n hx hb dX0_improveBy_68 rfl (lv_at hl 4 rfl) ?_
      refine va_get (D := (dC, dI)) (ci := 0) (v := .ref a5) (C := RX0) (T := TX0) (N := 11) hx hb hts hin hown hK hP 0 rfl rfl 6 (by decide) kf24 (fun _ h9 => h9) rfl dX0_improveBy_69 ?_
      refine lv_iload_n hx hb dX0_improveBy_72 rfl (lv_at hl 3 rfl) ?_
      refine tn_lald (i := (fp k)) (v := lf (fp k)) hx hb hK hP 5 1 rfl rfl (by omega) (by decide) rfl dX0_improveBy_73 ?_
      refine tn_lc_ne (x := ((mo k) + (lf (sp k)))) (y := (lf (fp k))) (tgt := 93) hx hb dX0_improveBy_74 dX0_improveBy_75 (by decide) (fun c_74 => ?_) (fun c_74 => ?_)
      · skip
        refine lv_iconst (v := nI 0) hx hb dX0_improveBy_93 (by decide) ?_
        refine lv_istore (lv' := [(7, .int (nI 0)), (6, .int ((sf (sp k)) + (nI 1))), (4, .long ((mo k) + (lf (sp k)))), (3, .int (nI (sp k))), (2, .int (nI (fp k))), (0, .ref h), (1, .int (nI k))]) hx hb dX0_improveBy_94 hl (by decide) rfl (fun ls hl => ?_)
        refine lv_iload hx hb dX0_improveBy_96 (lv_at hl 0 rfl) ?_
        refine lv_if_eq (tgt := 117) hx hb dX0_improveBy_98 (by decide) (fun c_98 => ?_) (fun c_98 => ?_)
        · skip
          refine lv_iload hx hb dX0_improveBy_117 (lv_at hl 0 rfl) ?_
          exact W.zret (v := nI 0) hx hb hr rfl (fun t ht hW => ⟨⟨nI 0, (lf, sf), rfl, Or.inr ⟨fun h => h.2.elim (fun q => c_62 q) (fun q => c_74 q.1), rfl, rfl⟩, by rw [ht]; exact hP, va_K.moved hW.alike hK, hD⟩, hS.F ht⟩) hS.2.2 dX0_improveBy_119
        · skip
          exact absurd rfl c_98
      · skip
        refine lv_iload hx hb dX0_improveBy_78 (lv_at hl 0 rfl) ?_
        refine lv_aload_n hx hb dX0_improveBy_80 rfl (lv_at hl 4 rfl) ?_
        refine va_get (D := (dC, dI)) (ci := 0) (v := .ref a6) (C := RX0) (T := TX0) (N := 11) hx hb hts hin hown hK hP 0 rfl rfl 7 (by decide) kf27 (fun _ h9 => h9) rfl dX0_improveBy_81 ?_
        refine lv_iload_n hx hb dX0_improveBy_84 rfl (lv_at hl 3 rfl) ?_
        refine tn_iald (i := (fp k)) (v := sf (fp k)) hx hb hK hP 6 0 rfl rfl (by omega) (by decide) rfl dX0_improveBy_85 ?_
        refine lv_icmp_ge (tgt := 93) hx hb dX0_improveBy_86 (by decide) (fun c_86 => ?_) (fun c_86 => ?_)
        · skip
          refine lv_iconst (v := nI 0) hx hb dX0_improveBy_93 (by decide) ?_
          refine lv_istore (lv' := [(7, .int (nI 0)), (6, .int ((sf (sp k)) + (nI 1))), (4, .long ((mo k) + (lf (sp k)))), (3, .int (nI (sp k))), (2, .int (nI (fp k))), (0, .ref h), (1, .int (nI k))]) hx hb dX0_improveBy_94 hl (by decide) rfl (fun ls hl => ?_)
          refine lv_iload hx hb dX0_improveBy_96 (lv_at hl 0 rfl) ?_
          refine lv_if_eq (tgt := 117) hx hb dX0_improveBy_98 (by decide) (fun c_98 => ?_) (fun c_98 => ?_)
          · skip
            refine lv_iload hx hb dX0_improveBy_117 (lv_at hl 0 rfl) ?_
            exact W.zret (v := nI 0) hx hb hr rfl (fun t ht hW => ⟨⟨nI 0, (lf, sf), rfl, Or.inr ⟨fun h => h.2.elim (fun q => c_62 q) (fun q => Int32.not_lt.mpr c_86 q.2), rfl, rfl⟩, by rw [ht]; exact hP, va_K.moved hW.alike hK, hD⟩, hS.F ht⟩) hS.2.2 dX0_improveBy_119
          · skip
            exact absurd rfl c_98
        · skip
          refine lv_iconst (v := nI 1) hx hb dX0_improveBy_89 (by decide) ?_
          refine lv_goto (tgt := 94) hx hb dX0_improveBy_90 (by decide) ?_
          refine lv_istore (lv' := [(7, .int (nI 1)), (6, .int ((sf (sp k)) + (nI 1))), (4, .long ((mo k) + (lf (sp k)))), (3, .int (nI (sp k))), (2, .int (nI (fp k))), (0, .ref h), (1, .int (nI k))]) hx hb dX0_improveBy_94 hl (by decide) rfl (fun ls hl => ?_)
          refine lv_iload hx hb dX0_improveBy_96 (lv_at hl 0 rfl) ?_
          refine lv_if_eq (tgt := 117) hx hb dX0_improveBy_98 (by decide) (fun c_98 => ?_) (fun c_98 => ?_)
          · skip
            exact absurd c_98 (by decide)
          · skip
            refine lv_aload_n hx hb dX0_improveBy_101 rfl (lv_at hl 5 rfl) ?_
            refine va_get (D := (dC, dI)) (ci := 0) (v := .ref a5) (C := RX0) (T := TX0) (N := 11) hx hb hts hin hown hK hP 0 rfl rfl 6 (by decide) kf24 (fun _ h9 => h9) rfl dX0_improveBy_102 ?_
            refine lv_iload_n hx hb dX0_improveBy_105 rfl (lv_at hl 4 rfl) ?_
            refine lv_lload hx hb dX0_improveBy_106 (lv_at hl 2 rfl) ?_
            refine tn_last (i := (fp k)) (f' := (vp_updL lf (fp k) ((mo k) + (lf (sp k))))) hx hb hK hP hD hS 5 1 rfl rfl (by omega) (by decide) rfl dX0_improveBy_108 (fun H locs hP hD hS => ?_)
            have hP : va_P (dC, dI) vwCl (tn_ws h a1 a2 a3 a4 a5 a6 a7 cI cL cZ cnt onc fp sp mo on (vp_updL lf (fp k) ((mo k) + (lf (sp k)))) sf rp rs rl) H := hP
            have hD : va_D A (tn_ws h a1 a2 a3 a4 a5 a6 a7 cI cL cZ cnt onc fp sp mo on (vp_updL lf (fp k) ((mo k) + (lf (sp k)))) sf rp rs rl) := hD
            refine lv_aload_n hx hb dX0_improveBy_109 rfl (lv_at hl 5 rfl) ?_
            refine va_get (D := (dC, dI)) (ci := 0) (v := .ref a6) (C := RX0) (T := TX0) (N := 11) hx hb hts hin hown hK hP 0 rfl rfl 7 (by decide) kf27 (fun _ h9 => h9) rfl dX0_improveBy_110 ?_
            refine lv_iload_n hx hb dX0_improveBy_113 rfl (lv_at hl 4 rfl) ?_
            refine lv_iload hx hb dX0_improveBy_114 (lv_at hl 1 rfl) ?_
            refine tn_iast (i := (fp k)) (f' := (upd sf (fp k) ((sf (sp k)) + (nI 1)))) hx hb hK hP hD hS 6 0 rfl rfl (by omega) (by decide) rfl dX0_improveBy_116 (fun H locs hP hD hS => ?_)
            have hP : va_P (dC, dI) vwCl (tn_ws h a1 a2 a3 a4 a5 a6 a7 cI cL cZ cnt onc fp sp mo on (vp_updL lf (fp k) ((mo k) + (lf (sp k)))) (upd sf (fp k) ((sf (sp k)) + (nI 1))) rp rs rl) H := hP
            have hD : va_D A (tn_ws h a1 a2 a3 a4 a5 a6 a7 cI cL cZ cnt onc fp sp mo on (vp_updL lf (fp k) ((mo k) + (lf (sp k)))) (upd sf (fp k) ((sf (sp k)) + (nI 1))) rp rs rl) := hD
            refine lv_iload hx hb dX0_improveBy_117 (lv_at hl 0 rfl) ?_
            exact W.zret (v := nI 1) hx hb hr rfl (fun t ht hW => ⟨⟨nI 1, (vp_updL lf (fp k) ((mo k) + (lf (sp k))), upd sf (fp k) ((sf (sp k)) + (nI 1))), rfl, Or.inl ⟨⟨c_23, Or.inr ⟨c_74, Int32.not_le.mp c_86⟩⟩, rfl, rfl⟩, by rw [ht]; exact hP, va_K.moved hW.alike hK, hD⟩, hS.F ht⟩) hS.2.2 dX0_improveBy_119
  · skip
    refine lv_iconst (v := nI 0) hx hb dX0_improveBy_27 (by decide) ?_
    exact W.zret (v := nI 0) hx hb hr rfl (fun t ht hW => ⟨⟨nI 0, (lf, sf), rfl, Or.inr ⟨fun h => h.1 c_23, rfl, rfl⟩, by rw [ht]; exact hP, va_K.moved hW.alike hK, hD⟩, hS.F ht⟩) hS.2.2 dX0_improveBy_28
end
section
set_option maxHeartbeats 4000000 in
set_option maxRecDepth 100000 in
/-- improveAll(): a round -/
theorem cX0_improveAll_ok (l : Launch) (dC : Nat → ClassId) (dI : Nat → Nat → Nat) (h a1 a2 a3 a4 a5 a6 a7 : Nat) (cI cL cZ : ClassId) (cnt onc : Nat) (fp sp : Nat → Nat) (mo : Nat → Int64) (on : Nat → Bool) (lf : Nat → Int64) (sf : Nat → Int32) (rp : Nat → Nat) (rs : Nat) (rl : Int64) (sz : Nat) (g : tn_good cnt fp sp mo) : Met l yX0_improveAll wsX0_improveAll ({ frames := 1, cells := 0, slots := 0, locals := 27 }) (va_Pc [.ref h] (tn_Pre dC dI (tn_tys cI cL cZ) (tn_ws h a1 a2 a3 a4 a5 a6 a7 cI cL cZ cnt onc fp sp mo on lf sf rp rs rl) sz)) (va_Qi (S := tn_D) (fun r u => r = tn_b (tn_rnd fp sp mo on (lf, sf) cnt).2 ∧ u = (tn_rnd fp sp mo on (lf, sf) cnt).1) (fun u t => tn_at dC dI (tn_tys cI cL cZ) (va_A (tn_ws h a1 a2 a3 a4 a5 a6 a7 cI cL cZ cnt onc fp sp mo on lf sf rp rs rl) sz) (tn_ws h a1 a2 a3 a4 a5 a6 a7 cI cL cZ cnt onc fp sp mo on u.1 u.2 rp rs rl) t) (va_A (tn_ws h a1 a2 a3 a4 a5 a6 a7 cI cL cZ cnt onc fp sp mo on lf sf rp rs rl) sz)) 0 0 (va_A (tn_ws h a1 a2 a3 a4 a5 a6 a7 cI cL cZ cnt onc fp sp mo on lf sf rp rs rl) sz) := by
  refine Met.ofW (cc := cX0_improveAll) (maxL := 3) (ret := (some .boolean)) (by decide) rfl ?_
  intro p e s m args below meth c s₁ B hml hv
  obtain ⟨rfl, hsz, hP, hK, hD0⟩ := hv
  have hx := B.exec
  have hb := B.bytes
  have hr := B.returns
  have hts := atoms_spec (ws := wsX0_improveAll) B.pre
  have hown : s.vm.findClass RX0 = some m.cls := findClass_of_methodNamed B.named
  have hlocks := B.notSynchronized
  subst hsz
  have hD := hD0.self (sz := s.heap.size)
  generalize hAe : va_A (tn_ws h a1 a2 a3 a4 a5 a6 a7 cI cL cZ cnt onc fp sp mo on lf sf rp rs rl) s.heap.size = A at hD ⊢
  have hA : ∀ q : Nat, s.heap.size ≤ q → A q := fun q h => by rw [← hAe]; exact Or.inr h
  have hS : va_S A s.heap s.heap [] := va_S.rf
  have hl := lv_entry ([.ref h]) (n := 3) (Nat.le_of_ble_eq_true rfl)
  rw [lg_entry_eq]
  generalize (lg_sl ([.ref h]) ++ List.replicate (3 - (lg_sl ([.ref h])).length) Slot.unset).toArray = ls at hl ⊢
  have hl : lv_has ls 3 [(0, .ref h)] := hl
  have kf33 := hts (.fieldLink RX0 33 "TimeNet" "count" "I") (by decide +kernel)
  have kf20 := hts (.fieldLink RX0 20 "TimeNet" "isOn" "[Z") (by decide +kernel)
  have hin : ∀ w ∈ u_ws RX0 TX0 11, w ∈ wsX0_improveAll := by decide +kernel
  have hc := g.1
  have loop : ∀ (n : Nat) (d : tn_D) (ch : Bool) (k : Nat) (H : Heap) (locs : List Loc) (ls : Array Slot), k ≤ cnt → cnt < k + n → tn_rnd fp sp mo on (lf, sf) k = (d, ch) → va_P (dC, dI) vwCl (tn_ws h a1 a2 a3 a4 a5 a6 a7 cI cL cZ cnt onc fp sp mo on d.1 d.2 rp rs rl) H → va_D A (tn_ws h a1 a2 a3 a4 a5 a6 a7 cI cL cZ cnt onc fp sp mo on d.1 d.2 rp rs rl) → va_S A s.heap H locs → lv_has ls 3 [(0, .ref h), (1, .int (tn_b ch)), (2, .int (nI k))] → W p l e (headSpec wsX0_improveAll ({ frames := 1, cells := 0, slots := 0, locals := 27 })).room s m ([.ref h] : List Value).toArray below meth c H locs 0 0 (MQ below (va_Qi (S := tn_D) (fun r u => r = tn_b (tn_rnd fp sp mo on (lf, sf) cnt).2 ∧ u = (tn_rnd fp sp mo on (lf, sf) cnt).1) (fun u t => tn_at dC dI (tn_tys cI cL cZ) A (tn_ws h a1 a2 a3 a4 a5 a6 a7 cI cL cZ cnt onc fp sp mo on u.1 u.2 rp rs rl) t) A) (([.ref h] : List Value).toArray) s 0 0 A) (F0 m 4 ls []) := by
    intro n
    induction n with
    | zero => intro d ch k H locs ls hk1 hk2 hd _ _ _ _; exact absurd hk2 (by omega)
    | succ n ih =>
      intro d ch k H locs ls hk1 hk2 hd hP hD hS hl
      refine lv_iload_n hx hb dX0_improveAll_4 rfl (lv_at hl 2 rfl) ?_
      refine lv_aload_n hx hb dX0_improveAll_5 rfl (lv_at hl 0 rfl) ?_
      refine va_get (D := (dC, dI)) (ci := 0) (v := .int (nI cnt)) (C := RX0) (T := TX0) (N := 11) hx hb hts hin hown hK hP 0 rfl rfl 4 (by decide) kf33 (fun _ h9 => h9) rfl dX0_improveAll_6 ?_
      refine lv_icmp_ge (tgt := 37) hx hb dX0_improveAll_9 (by decide) (fun c_9 => ?_) (fun c_9 => ?_)
      · skip
        have hkc : k = cnt := Nat.le_antisymm hk1 ((nI_leI (by omega) (by omega)).mp c_9)
        subst hkc
        refine lv_iload_n hx hb dX0_improveAll_37 rfl (lv_at hl 1 rfl) ?_
        exact W.zret (v := tn_b ch) hx hb hr (tn_b_nar _) (fun t ht hW => ⟨⟨tn_b ch, d, rfl, ⟨by rw [hd], by rw [hd]⟩, by rw [ht]; exact hP, va_K.moved hW.alike hK, hD⟩, hS.F ht⟩) hS.2.2 dX0_improveAll_38
      · skip
        have hkc : k < cnt := Nat.lt_of_not_le (fun q => c_9 (nI_le q (by omega)))
        refine lv_aload_n hx hb dX0_improveAll_12 rfl (lv_at hl 0 rfl) ?_
        refine va_get (D := (dC, dI)) (ci := 0) (v := .ref a4) (C := RX0) (T := TX0) (N := 11) hx hb hts hin hown hK hP 0 rfl rfl 3 (by decide) kf20 (fun _ h9 => h9) rfl dX0_improveAll_13 ?_
        refine lv_iload_n hx hb dX0_improveAll_16 rfl (lv_at hl 2 rfl) ?_
        refine tn_zald (i := k) (v := tn_b (on k)) hx hb hK hP 4 2 rfl rfl (by omega) (by decide) rfl dX0_improveAll_17 ?_
        refine lv_if_eq (tgt := 31) hx hb dX0_improveAll_18 (by decide) (fun c_18 => ?_) (fun c_18 => ?_)
        · skip
          have ho := tn_b_eq0 c_18
          refine lv_iinc (v := nI (k + 1)) (lv' := [(2, .int (nI (k + 1))), (0, .ref h), (1, .int (tn_b ch))]) hx hb dX0_improveAll_31 hl (k := 2) rfl (tn_inc k) (by decide) rfl (fun ls hl => ?_)
          refine lv_goto (tgt := 4) hx hb dX0_improveAll_34 (by decide) ?_
          exact ih d ch (k + 1) _ _ _ hkc (by omega) (by rw [tn_rnd, hd, if_neg (fun q => by rw [ho] at q; exact absurd q.1 (by decide))]) hP hD hS (lv_sub hl [1, 2, 0] rfl)
        · skip
          have ho := tn_b_ne0 c_18
          refine lv_aload_n hx hb dX0_improveAll_21 rfl (lv_at hl 0 rfl) ?_
          refine lv_iload_n hx hb dX0_improveAll_22 rfl (lv_at hl 2 rfl) ?_
          have hF := tn_freeA hD hS hA
          refine va_calli (va_runV (As := [.int (nI k)]) (rest := []) ⟨hx, hb, hml, hown, hts⟩ (cX0_improveBy_ok l dC dI h a1 a2 a3 a4 a5 a6 a7 cI cL cZ cnt onc fp sp mo on d.1 d.2 rp rs rl H.size g k hkc) (cwV 1 hts gX0_improveAll_X0_improveBy rfl rfl rfl (by decide +kernel) ⟨Nat.le_of_ble_eq_true rfl, Nat.le_of_ble_eq_true rfl⟩) (tn_preV hK hP hD (ci := 0) rfl 0 rfl) rfl rfl hl.1 rfl (lv_room (Nat.le_of_ble_eq_true rfl)) dX0_improveAll_23 ⟨Nat.le_of_ble_eq_true rfl, Nat.le_of_ble_eq_true rfl⟩) hS (fun q _ h => hF q h) hF (fun r_23 u_23 t H1 locs ht hvm hw_23 hB hz1 hk1 hS => ?_)
          obtain ⟨hP1, -, hD1⟩ := hB
          rw [ht] at hP1
          have hD := hD1.weaken (fun _ q _ hq => hF q.1 hq)
          clear hP hk1 hF hz1 ht hvm hD1
          generalize H1 = H at hP1 hS ⊢
          have hP := hP1
          clear hP1
          refine lv_if_eq (tgt := 31) hx hb dX0_improveAll_26 (by decide) (fun c_26 => ?_) (fun c_26 => ?_)
          · skip
            have hw2 : ¬ tn_imp fp sp mo k d ∧ u_23 = d := by
              rcases hw_23 with ⟨_, q, _⟩ | ⟨q1, _, q2⟩
              · exact absurd (q ▸ c_26 : nI 1 = 0) (by decide)
              · exact ⟨q1, q2⟩
            refine lv_iinc (v := nI (k + 1)) (lv' := [(2, .int (nI (k + 1))), (0, .ref h), (1, .int (tn_b ch))]) hx hb dX0_improveAll_31 hl (k := 2) rfl (tn_inc k) (by decide) rfl (fun ls hl => ?_)
            refine lv_goto (tgt := 4) hx hb dX0_improveAll_34 (by decide) ?_
            exact ih u_23 ch (k + 1) _ _ _ hkc (by omega) (by rw [tn_rnd, hd, if_neg (fun q => hw2.1 q.2), hw2.2]) hP hD hS (lv_sub hl [1, 2, 0] rfl)
          · skip
            have hw2 : tn_imp fp sp mo k d ∧ u_23 = tn_stp fp sp mo k d := by
              rcases hw_23 with ⟨q1, _, q2⟩ | ⟨_, q, _⟩
              · exact ⟨q1, q2⟩
              · exact absurd (q : r_23 = 0) c_26
            refine lv_iconst (v := nI 1) hx hb dX0_improveAll_29 (by decide) ?_
            refine lv_istore_n (lv' := [(1, .int (nI 1)), (0, .ref h), (2, .int (nI k))]) hx hb dX0_improveAll_30 rfl hl (by decide) rfl (fun ls hl => ?_)
            refine lv_iinc (v := nI (k + 1)) (lv' := [(2, .int (nI (k + 1))), (1, .int (nI 1)), (0, .ref h)]) hx hb dX0_improveAll_31 hl (k := 2) rfl (tn_inc k) (by decide) rfl (fun ls hl => ?_)
            refine lv_goto (tgt := 4) hx hb dX0_improveAll_34 (by decide) ?_
            exact ih u_23 true (k + 1) _ _ _ hkc (by omega) (by rw [tn_rnd, hd, if_pos ⟨ho, hw2.1⟩, hw2.2]) hP hD hS (lv_sub hl [2, 1, 0] rfl)
  refine lv_iconst (v := nI 0) hx hb dX0_improveAll_0 (by decide) ?_
  refine lv_istore_n (lv' := [(1, .int (nI 0)), (0, .ref h)]) hx hb dX0_improveAll_1 rfl hl (by decide) rfl (fun ls hl => ?_)
  refine lv_iconst (v := nI 0) hx hb dX0_improveAll_2 (by decide) ?_
  refine lv_istore_n (lv' := [(2, .int (nI 0)), (1, .int (nI 0)), (0, .ref h)]) hx hb dX0_improveAll_3 rfl hl (by decide) rfl (fun ls hl => ?_)
  exact loop (cnt + 1) (lf, sf) false 0 _ _ _ (Nat.zero_le _) (by omega) rfl hP hD hS (lv_sub hl [2, 1, 0] rfl)
set_option maxHeartbeats 4000000 in
set_option maxRecDepth 100000 in
/-- measureTo(tg) -/
theorem cX0_measureTo_ok (l : Launch) (dC : Nat → ClassId) (dI : Nat → Nat → Nat) (h a1 a2 a3 a4 a5 a6 a7 : Nat) (cI cL cZ : ClassId) (cnt onc : Nat) (fp sp : Nat → Nat) (mo : Nat → Int64) (on : Nat → Bool) (lf : Nat → Int64) (sf : Nat → Int32) (rp : Nat → Nat) (rs : Nat) (rl : Int64) (sz : Nat) (g : tn_good cnt fp sp mo) (tg : Nat) (htg : tg < 20) : Met l yX0_measureTo wsX0_measureTo ({ frames := 2, cells := 0, slots := 0, locals := 49 }) (va_Pc [.ref h, .int (nI tg)] (tn_Pre dC dI (tn_tys cI cL cZ) (tn_ws h a1 a2 a3 a4 a5 a6 a7 cI cL cZ cnt onc fp sp mo on lf sf rp rs rl) sz)) (va_Qv (S := tn_D) (fun u => u = tn_ms cnt fp sp mo on lf sf tg) (fun u t => tn_at dC dI (tn_tys cI cL cZ) (va_A (tn_ws h a1 a2 a3 a4 a5 a6 a7 cI cL cZ cnt onc fp sp mo on lf sf rp rs rl) sz) (tn_ws h a1 a2 a3 a4 a5 a6 a7 cI cL cZ cnt onc fp sp mo on u.1 u.2 rp rs rl) t) (va_A (tn_ws h a1 a2 a3 a4 a5 a6 a7 cI cL cZ cnt onc fp sp mo on lf sf rp rs rl) sz)) 0 0 (va_A (tn_ws h a1 a2 a3 a4 a5 a6 a7 cI cL cZ cnt onc fp sp mo on lf sf rp rs rl) sz) := by
  refine Met.ofW (cc := cX0_measureTo) (maxL := 4) (ret := none) (by decide) rfl ?_
  intro p e s m args below meth c s₁ B hml hv
  obtain ⟨rfl, hsz, hP, hK, hD0⟩ := hv
  have hx := B.exec
  have hb := B.bytes
  have hr := B.returns
  have hts := atoms_spec (ws := wsX0_measureTo) B.pre
  have hown : s.vm.findClass RX0 = some m.cls := findClass_of_methodNamed B.named
  have hlocks := B.notSynchronized
  subst hsz
  have hD := hD0.self (sz := s.heap.size)
  generalize hAe : va_A (tn_ws h a1 a2 a3 a4 a5 a6 a7 cI cL cZ cnt onc fp sp mo on lf sf rp rs rl) s.heap.size = A at hD ⊢
  have hA : ∀ q : Nat, s.heap.size ≤ q → A q := fun q h => by rw [← hAe]; exact Or.inr h
  have hS : va_S A s.heap s.heap [] := va_S.rf
  have hl := lv_entry ([.ref h, .int (nI tg)]) (n := 4) (Nat.le_of_ble_eq_true rfl)
  rw [lg_entry_eq]
  generalize (lg_sl ([.ref h, .int (nI tg)]) ++ List.replicate (4 - (lg_sl ([.ref h, .int (nI tg)])).length) Slot.unset).toArray = ls at hl ⊢
  have hl : lv_has ls 4 [(0, .ref h), (1, .int (nI tg))] := hl
  have kf24 := hts (.fieldLink RX0 24 "TimeNet" "lengthFrom" "[J") (by decide +kernel)
  have kc75 := hts (.constantLong RX0 75 (9223372036854775807)) (by decide +kernel)
  have kf27 := hts (.fieldLink RX0 27 "TimeNet" "stepsFrom" "[I") (by decide +kernel)
  have hin : ∀ w ∈ u_ws RX0 TX0 11, w ∈ wsX0_measureTo := by decide +kernel
  have hc := g.1
  have loop2 : ∀ (n : Nat) (d : tn_D) (ch : Bool) (rd : Nat) (q : Nat) (H : Heap) (locs : List Loc) (ls : Array Slot), rd + q = 20 → q < n → tn_lop cnt fp sp mo on 19 (tn_d0 lf sf tg) = (if ch = true then tn_lop cnt fp sp mo on q d else d) → va_P (dC, dI) vwCl (tn_ws h a1 a2 a3 a4 a5 a6 a7 cI cL cZ cnt onc fp sp mo on d.1 d.2 rp rs rl) H → va_D A (tn_ws h a1 a2 a3 a4 a5 a6 a7 cI cL cZ cnt onc fp sp mo on d.1 d.2 rp rs rl) → va_S A s.heap H locs → lv_has ls 4 [(0, .ref h), (1, .int (nI tg)), (2, .int (tn_b ch)), (3, .int (nI rd))] → W p l e (headSpec wsX0_measureTo ({ frames := 2, cells := 0, slots := 0, locals := 49 })).room s m ([.ref h, .int (nI tg)] : List Value).toArray below meth c H locs 0 0 (MQ below (va_Qv (S := tn_D) (fun u => u = tn_ms cnt fp sp mo on lf sf tg) (fun u t => tn_at dC dI (tn_tys cI cL cZ) A (tn_ws h a1 a2 a3 a4 a5 a6 a7 cI cL cZ cnt onc fp sp mo on u.1 u.2 rp rs rl) t) A) (([.ref h, .int (nI tg)] : List Value).toArray) s 0 0 A) (F0 m 48 ls []) := by
    intro n
    induction n with
    | zero => intro d ch rd q H locs ls hrq hqn hd _ _ _ _; exact absurd hqn (by omega)
    | succ n ih =>
      intro d ch rd q H locs ls hrq hqn hd hP hD hS hl
      refine lv_iload_n hx hb dX0_measureTo_48 rfl (lv_at hl 3 rfl) ?_
      refine lv_bipush (v := nI 20) hx hb dX0_measureTo_49 (by decide) ?_
      refine lv_icmp_ge (tgt := 69) hx hb dX0_measureTo_51 (by decide) (fun c_51 => ?_) (fun c_51 => ?_)
      · skip
        have hq0 : q = 0 := by
          have := (nI_leI (by omega) (by omega)).mp c_51
          omega
        subst hq0
        exact W.vret hx hb hr (fun t ht hW => ⟨⟨d, rfl, (show d = tn_lop cnt fp sp mo on 19 (tn_d0 lf sf tg) from by rw [hd]; cases ch <;> rfl), by rw [ht]; exact hP, va_K.moved hW.alike hK, hD⟩, hS.F ht⟩) hS.2.2 dX0_measureTo_69
      · skip
        have hrd : rd < 20 := Nat.lt_of_not_le (fun q => c_51 (nI_le q (by omega)))
        refine lv_iload_n hx hb dX0_measureTo_54 rfl (lv_at hl 2 rfl) ?_
        refine lv_if_eq (tgt := 69) hx hb dX0_measureTo_55 (by decide) (fun c_55 => ?_) (fun c_55 => ?_)
        · skip
          have hch := tn_b_eq0 c_55
          exact W.vret hx hb hr (fun t ht hW => ⟨⟨d, rfl, (show d = tn_lop cnt fp sp mo on 19 (tn_d0 lf sf tg) from by rw [hd, hch]; rfl), by rw [ht]; exact hP, va_K.moved hW.alike hK, hD⟩, hS.F ht⟩) hS.2.2 dX0_measureTo_69
        · skip
          have hch := tn_b_ne0 c_55
          obtain ⟨q', rfl⟩ : ∃ q', q = q' + 1 := ⟨q - 1, by omega⟩
          refine lv_aload_n hx hb dX0_measureTo_58 rfl (lv_at hl 0 rfl) ?_
          have hF := tn_freeA hD hS hA
          refine va_calli (va_runV (As := []) (rest := []) ⟨hx, hb, hml, hown, hts⟩ (cX0_improveAll_ok l dC dI h a1 a2 a3 a4 a5 a6 a7 cI cL cZ cnt onc fp sp mo on d.1 d.2 rp rs rl H.size g) (cwV 0 hts gX0_measureTo_X0_improveAll rfl rfl rfl (by decide +kernel) ⟨Nat.le_of_ble_eq_true rfl, Nat.le_of_ble_eq_true rfl⟩) (tn_preV hK hP hD (ci := 0) rfl 0 rfl) rfl rfl hl.1 rfl (lv_room (Nat.le_of_ble_eq_true rfl)) dX0_measureTo_59 ⟨Nat.le_of_ble_eq_true rfl, Nat.le_of_ble_eq_true rfl⟩) hS (fun q _ h => hF q h) hF (fun r_59 u_59 t H1 locs ht hvm hw_59 hB hz1 hk1 hS => ?_)
          obtain ⟨hP1, -, hD1⟩ := hB
          rw [ht] at hP1
          have hD := hD1.weaken (fun _ q _ hq => hF q.1 hq)
          clear hP hk1 hF hz1 ht hvm hD1
          generalize H1 = H at hP1 hS ⊢
          have hP := hP1
          clear hP1
          have hr_59 : r_59 = tn_b (tn_rnd fp sp mo on d cnt).2 := hw_59.1
          subst hr_59
          have hu2_59 : u_59 = (tn_rnd fp sp mo on d cnt).1 := hw_59.2
          refine lv_istore_n (lv' := [(2, .int (tn_b (tn_rnd fp sp mo on d cnt).2)), (0, .ref h), (1, .int (nI tg)), (3, .int (nI rd))]) hx hb dX0_measureTo_62 rfl hl (by decide) rfl (fun ls hl => ?_)
          refine lv_iinc (v := nI (rd + 1)) (lv' := [(3, .int (nI (rd + 1))), (2, .int (tn_b (tn_rnd fp sp mo on d cnt).2)), (0, .ref h), (1, .int (nI tg))]) hx hb dX0_measureTo_63 hl (k := 3) rfl (tn_inc rd) (by decide) rfl (fun ls hl => ?_)
          refine lv_goto (tgt := 48) hx hb dX0_measureTo_66 (by decide) ?_
          exact ih u_59 (tn_rnd fp sp mo on d cnt).2 (rd + 1) q' _ _ _ (by omega) (by omega) (by rw [hd, hch, if_pos rfl, tn_lop, hu2_59]) hP hD hS (lv_sub hl [2, 3, 1, 0] rfl)
  have loop1 : ∀ (n : Nat) (i : Nat) (H : Heap) (locs : List Loc) (ls : Array Slot), i ≤ 20 → 20 < i + n → va_P (dC, dI) vwCl (tn_ws h a1 a2 a3 a4 a5 a6 a7 cI cL cZ cnt onc fp sp mo on (fun p => if p < i then tn_MX else lf p) (fun p => if p < i then -1 else sf p) rp rs rl) H → va_D A (tn_ws h a1 a2 a3 a4 a5 a6 a7 cI cL cZ cnt onc fp sp mo on (fun p => if p < i then tn_MX else lf p) (fun p => if p < i then -1 else sf p) rp rs rl) → va_S A s.heap H locs → lv_has ls 4 [(0, .ref h), (1, .int (nI tg)), (2, .int (nI i))] → W p l e (headSpec wsX0_measureTo ({ frames := 2, cells := 0, slots := 0, locals := 49 })).room s m ([.ref h, .int (nI tg)] : List Value).toArray below meth c H locs 0 0 (MQ below (va_Qv (S := tn_D) (fun u => u = tn_ms cnt fp sp mo on lf sf tg) (fun u t => tn_at dC dI (tn_tys cI cL cZ) A (tn_ws h a1 a2 a3 a4 a5 a6 a7 cI cL cZ cnt onc fp sp mo on u.1 u.2 rp rs rl) t) A) (([.ref h, .int (nI tg)] : List Value).toArray) s 0 0 A) (F0 m 2 ls []) := by
    intro n
    induction n with
    | zero => intro i H locs ls hi1 hi2 _ _ _ _; exact absurd hi2 (by omega)
    | succ n ih =>
      intro i H locs ls hi1 hi2 hP hD hS hl
      refine lv_iload_n hx hb dX0_measureTo_2 rfl (lv_at hl 2 rfl) ?_
      refine lv_bipush (v := nI 20) hx hb dX0_measureTo_3 (by decide) ?_
      refine lv_icmp_ge (tgt := 30) hx hb dX0_measureTo_5 (by decide) (fun c_5 => ?_) (fun c_5 => ?_)
      · skip
        have hi20 : i = 20 := Nat.le_antisymm hi1 ((nI_leI (by omega) (by omega)).mp c_5)
        subst hi20
        refine lv_aload_n hx hb dX0_measureTo_30 rfl (lv_at hl 0 rfl) ?_
        refine va_get (D := (dC, dI)) (ci := 0) (v := .ref a5) (C := RX0) (T := TX0) (N := 11) hx hb hts hin hown hK hP 0 rfl rfl 6 (by decide) kf24 (fun _ h9 => h9) rfl dX0_measureTo_31 ?_
        refine lv_iload_n hx hb dX0_measureTo_34 rfl (lv_at hl 1 rfl) ?_
        refine lv_lconst (v := 0) hx hb dX0_measureTo_35 (by decide) ?_
        refine tn_last (i := tg) (f' := (vp_updL (fun p => if p < 20 then tn_MX else lf p) tg 0)) hx hb hK hP hD hS 5 1 rfl rfl (by omega) (by decide) rfl dX0_measureTo_36 (fun H locs hP hD hS => ?_)
        have hP : va_P (dC, dI) vwCl (tn_ws h a1 a2 a3 a4 a5 a6 a7 cI cL cZ cnt onc fp sp mo on (vp_updL (fun p => if p < 20 then tn_MX else lf p) tg 0) (fun p => if p < 20 then -1 else sf p) rp rs rl) H := hP
        have hD : va_D A (tn_ws h a1 a2 a3 a4 a5 a6 a7 cI cL cZ cnt onc fp sp mo on (vp_updL (fun p => if p < 20 then tn_MX else lf p) tg 0) (fun p => if p < 20 then -1 else sf p) rp rs rl) := hD
        refine lv_aload_n hx hb dX0_measureTo_37 rfl (lv_at hl 0 rfl) ?_
        refine va_get (D := (dC, dI)) (ci := 0) (v := .ref a6) (C := RX0) (T := TX0) (N := 11) hx hb hts hin hown hK hP 0 rfl rfl 7 (by decide) kf27 (fun _ h9 => h9) rfl dX0_measureTo_38 ?_
        refine lv_iload_n hx hb dX0_measureTo_41 rfl (lv_at hl 1 rfl) ?_
        refine lv_iconst (v := nI 0) hx hb dX0_measureTo_42 (by decide) ?_
        refine tn_iast (i := tg) (f' := (upd (fun p => if p < 20 then -1 else sf p) tg (nI 0))) hx hb hK hP hD hS 6 0 rfl rfl (by omega) (by decide) rfl dX0_measureTo_43 (fun H locs hP hD hS => ?_)
        have hP : va_P (dC, dI) vwCl (tn_ws h a1 a2 a3 a4 a5 a6 a7 cI cL cZ cnt onc fp sp mo on (vp_updL (fun p => if p < 20 then tn_MX else lf p) tg 0) (upd (fun p => if p < 20 then -1 else sf p) tg (nI 0)) rp rs rl) H := hP
        have hD : va_D A (tn_ws h a1 a2 a3 a4 a5 a6 a7 cI cL cZ cnt onc fp sp mo on (vp_updL (fun p => if p < 20 then tn_MX else lf p) tg 0) (upd (fun p => if p < 20 then -1 else sf p) tg (nI 0)) rp rs rl) := hD
        refine lv_iconst (v := nI 1) hx hb dX0_measureTo_44 (by decide) ?_
        refine lv_istore_n (lv' := [(2, .int (nI 1)), (0, .ref h), (1, .int (nI tg))]) hx hb dX0_measureTo_45 rfl hl (by decide) rfl (fun ls hl => ?_)
        refine lv_iconst (v := nI 1) hx hb dX0_measureTo_46 (by decide) ?_
        refine lv_istore_n (lv' := [(3, .int (nI 1)), (2, .int (nI 1)), (0, .ref h), (1, .int (nI tg))]) hx hb dX0_measureTo_47 rfl hl (by decide) rfl (fun ls hl => ?_)
        exact loop2 20 (vp_updL (fun p => if p < 20 then tn_MX else lf p) tg 0, upd (fun p => if p < 20 then -1 else sf p) tg (nI 0)) true 1 19 _ _ _ (by omega) (by omega) rfl hP hD hS (lv_sub hl [2, 3, 1, 0] rfl)
      · skip
        have hi20 : i < 20 := Nat.lt_of_not_le (fun q => c_5 (nI_le q (by omega)))
        refine lv_aload_n hx hb dX0_measureTo_8 rfl (lv_at hl 0 rfl) ?_
        refine va_get (D := (dC, dI)) (ci := 0) (v := .ref a5) (C := RX0) (T := TX0) (N := 11) hx hb hts hin hown hK hP 0 rfl rfl 6 (by decide) kf24 (fun _ h9 => h9) rfl dX0_measureTo_9 ?_
        refine lv_iload_n hx hb dX0_measureTo_12 rfl (lv_at hl 2 rfl) ?_
        refine lv_ldc2 (v := 9223372036854775807) hx hb hown kc75 dX0_measureTo_13 ?_
        refine tn_last (i := i) (f' := (fun p => if p < i + 1 then tn_MX else lf p)) hx hb hK hP hD hS 5 1 rfl rfl (by omega) (by decide) (tn_fillL lf tn_MX i) dX0_measureTo_16 (fun H locs hP hD hS => ?_)
        have hP : va_P (dC, dI) vwCl (tn_ws h a1 a2 a3 a4 a5 a6 a7 cI cL cZ cnt onc fp sp mo on (fun p => if p < i + 1 then tn_MX else lf p) (fun p => if p < i then -1 else sf p) rp rs rl) H := hP
        have hD : va_D A (tn_ws h a1 a2 a3 a4 a5 a6 a7 cI cL cZ cnt onc fp sp mo on (fun p => if p < i + 1 then tn_MX else lf p) (fun p => if p < i then -1 else sf p) rp rs rl) := hD
        refine lv_aload_n hx hb dX0_measureTo_17 rfl (lv_at hl 0 rfl) ?_
        refine va_get (D := (dC, dI)) (ci := 0) (v := .ref a6) (C := RX0) (T := TX0) (N := 11) hx hb hts hin hown hK hP 0 rfl rfl 7 (by decide) kf27 (fun _ h9 => h9) rfl dX0_measureTo_18 ?_
        refine lv_iload_n hx hb dX0_measureTo_21 rfl (lv_at hl 2 rfl) ?_
        refine lv_iconst (v := (-1)) hx hb dX0_measureTo_22 (by decide) ?_
        refine tn_iast (i := i) (f' := (fun p => if p < i + 1 then -1 else sf p)) hx hb hK hP hD hS 6 0 rfl rfl (by omega) (by decide) (tn_fillI sf (-1) i) dX0_measureTo_23 (fun H locs hP hD hS => ?_)
        have hP : va_P (dC, dI) vwCl (tn_ws h a1 a2 a3 a4 a5 a6 a7 cI cL cZ cnt onc fp sp mo on (fun p => if p < i + 1 then tn_MX else lf p) (fun p => if p < i + 1 then -1 else sf p) rp rs rl) H := hP
        have hD : va_D A (tn_ws h a1 a2 a3 a4 a5 a6 a7 cI cL cZ cnt onc fp sp mo on (fun p => if p < i + 1 then tn_MX else lf p) (fun p => if p < i + 1 then -1 else sf p) rp rs rl) := hD
        refine lv_iinc (v := nI (i + 1)) (lv' := [(2, .int (nI (i + 1))), (0, .ref h), (1, .int (nI tg))]) hx hb dX0_measureTo_24 hl (k := 2) rfl (tn_inc i) (by decide) rfl (fun ls hl => ?_)
        refine lv_goto (tgt := 2) hx hb dX0_measureTo_27 (by decide) ?_
        exact ih (i + 1) _ _ _ (by omega) (by omega) hP hD hS (lv_sub hl [1, 2, 0] rfl)
  refine lv_iconst (v := nI 0) hx hb dX0_measureTo_0 (by decide) ?_
  refine lv_istore_n (lv' := [(2, .int (nI 0)), (0, .ref h), (1, .int (nI tg))]) hx hb dX0_measureTo_1 rfl hl (by decide) rfl (fun ls hl => ?_)
  have eL : (fun p => if p < 0 then tn_MX else lf p) = lf := by funext p; simp
  have eI : (fun p => if p < 0 then -1 else sf p) = sf := by funext p; simp
  exact loop1 21 0 _ _ _ (by omega) (by omega) (by rw [eL, eI]; exact hP) (by rw [eL, eI]; exact hD) hS (lv_sub hl [1, 2, 0] rfl)
set_option maxHeartbeats 4000000 in
set_option maxRecDepth 100000 in
/-- findPath(x, y) -/
theorem cX0_findPath_ok (l : Launch) (dC : Nat → ClassId) (dI : Nat → Nat → Nat) (h a1 a2 a3 a4 a5 a6 a7 : Nat) (cI cL cZ : ClassId) (cnt onc : Nat) (fp sp : Nat → Nat) (mo : Nat → Int64) (on : Nat → Bool) (lf : Nat → Int64) (sf : Nat → Int32) (rp : Nat → Nat) (rs : Nat) (rl : Int64) (sz : Nat) (g : tn_good cnt fp sp mo) (x y : Int32) : Met l yX0_findPath wsX0_findPath ({ frames := 3, cells := 0, slots := 0, locals := 72 }) (va_Pc [.ref h, .int x, .int y] (tn_Pre dC dI (tn_tys cI cL cZ) (tn_ws h a1 a2 a3 a4 a5 a6 a7 cI cL cZ cnt onc fp sp mo on lf sf rp rs rl) sz)) (va_Qi (S := tn_D) (fun r u => (∃ a b, a < 20 ∧ b < 20 ∧ x = nI a ∧ y = nI b ∧ u = tn_ms cnt fp sp mo on lf sf b ∧ ((r = nI 0 ∧ u.1 a = tn_MX) ∨ (r = nI 1 ∧ u.1 a ≠ tn_MX))) ∨ ((∀ a b, a < 20 → b < 20 → ¬ (x = nI a ∧ y = nI b)) ∧ r = nI 0 ∧ u = (lf, sf))) (fun u t => tn_at dC dI (tn_tys cI cL cZ) (va_A (tn_ws h a1 a2 a3 a4 a5 a6 a7 cI cL cZ cnt onc fp sp mo on lf sf rp rs rl) sz) (tn_ws h a1 a2 a3 a4 a5 a6 a7 cI cL cZ cnt onc fp sp mo on u.1 u.2 rp rs rl) t) (va_A (tn_ws h a1 a2 a3 a4 a5 a6 a7 cI cL cZ cnt onc fp sp mo on lf sf rp rs rl) sz)) 0 0 (va_A (tn_ws h a1 a2 a3 a4 a5 a6 a7 cI cL cZ cnt onc fp sp mo on lf sf rp rs rl) sz) := by
  refine Met.ofW (cc := cX0_findPath) (maxL := 3) (ret := (some .boolean)) (by decide) rfl ?_
  intro p e s m args below meth c s₁ B hml hv
  obtain ⟨rfl, hsz, hP, hK, hD0⟩ := hv
  have hx := B.exec
  have hb := B.bytes
  have hr := B.returns
  have hts := atoms_spec (ws := wsX0_findPath) B.pre
  have hown : s.vm.findClass RX0 = some m.cls := findClass_of_methodNamed B.named
  have hlocks := B.notSynchronized
  subst hsz
  have hD := hD0.self (sz := s.heap.size)
  generalize hAe : va_A (tn_ws h a1 a2 a3 a4 a5 a6 a7 cI cL cZ cnt onc fp sp mo on lf sf rp rs rl) s.heap.size = A at hD ⊢
  have hA : ∀ q : Nat, s.heap.size ≤ q → A q := fun q h => by rw [← hAe]; exact Or.inr h
  have hS : va_S A s.heap s.heap [] := va_S.rf
  have hl := lv_entry ([.ref h, .int x, .int y]) (n := 3) (Nat.le_of_ble_eq_true rfl)
  rw [lg_entry_eq]
  generalize (lg_sl ([.ref h, .int x, .int y]) ++ List.replicate (3 - (lg_sl ([.ref h, .int x, .int y])).length) Slot.unset).toArray = ls at hl ⊢
  have hl : lv_has ls 3 [(0, .ref h), (1, .int x), (2, .int y)] := hl
  have kf24 := hts (.fieldLink RX0 24 "TimeNet" "lengthFrom" "[J") (by decide +kernel)
  have kc75 := hts (.constantLong RX0 75 (9223372036854775807)) (by decide +kernel)
  have hin : ∀ w ∈ u_ws RX0 TX0 11, w ∈ wsX0_findPath := by decide +kernel
  have hc := g.1
  refine lv_iload_n hx hb dX0_findPath_0 rfl (lv_at hl 1 rfl) ?_
  have hF := tn_freeA hD hS hA
  refine va_calli (va_runS (As := [.int x]) (rest := []) ⟨hx, hb, hml, hown, hts⟩ (cX0_isPoint_ok l dC dI h a1 a2 a3 a4 a5 a6 a7 cI cL cZ cnt onc fp sp mo on lf sf rp rs rl s.heap.size x) (va_cwS 1 hts gX0_findPath_X0_isPoint rfl rfl rfl (by decide +kernel) ⟨Nat.le_of_ble_eq_true rfl, Nat.le_of_ble_eq_true rfl⟩) (tn_preS hK hP hD) rfl rfl hl.1 rfl (lv_room (Nat.le_of_ble_eq_true rfl)) dX0_findPath_1 ⟨Nat.le_of_ble_eq_true rfl, Nat.le_of_ble_eq_true rfl⟩) hS (fun q _ h => hF q h) hF (fun r_1 u_1 t H1 locs ht hvm hw_1 hB hz1 hk1 hS => ?_)
  obtain ⟨hP1, -, hD1⟩ := hB
  rw [ht] at hP1
  have hD := hD1.weaken (fun _ q _ hq => hF q.1 hq)
  clear hP hk1 hF hz1 ht hvm hD1
  generalize H1 = H at hP1 hS ⊢
  have hP := hP1
  clear hP1
  refine lv_if_eq (tgt := 14) hx hb dX0_findPath_4 (by decide) (fun c_4 => ?_) (fun c_4 => ?_)
  · skip
    have hn_1 : ∀ j, j < 20 → x ≠ nI j := by
      rcases hw_1 with ⟨q, _⟩ | ⟨_, q⟩
      · exact absurd (q ▸ c_4 : nI 1 = 0) (by decide)
      · exact q
    refine lv_iconst (v := nI 0) hx hb dX0_findPath_14 (by decide) ?_
    exact W.zret (v := nI 0) hx hb hr rfl (fun t ht hW => ⟨⟨nI 0, (lf, sf), rfl, Or.inr ⟨fun a b ha _ q => hn_1 a ha q.1, rfl, rfl⟩, by rw [ht]; exact hP, va_K.moved hW.alike hK, hD⟩, hS.F ht⟩) hS.2.2 dX0_findPath_15
  · skip
    obtain ⟨ja, hja, eja⟩ : ∃ j, j < 20 ∧ x = nI j := by
      rcases hw_1 with ⟨_, q⟩ | ⟨q, _⟩
      · exact q
      · exact absurd (q : r_1 = 0) c_4
    subst eja
    refine lv_iload_n hx hb dX0_findPath_7 rfl (lv_at hl 2 rfl) ?_
    have hF := tn_freeA hD hS hA
    refine va_calli (va_runS (As := [.int y]) (rest := []) ⟨hx, hb, hml, hown, hts⟩ (cX0_isPoint_ok l dC dI h a1 a2 a3 a4 a5 a6 a7 cI cL cZ cnt onc fp sp mo on lf sf rp rs rl H.size y) (va_cwS 1 hts gX0_findPath_X0_isPoint rfl rfl rfl (by decide +kernel) ⟨Nat.le_of_ble_eq_true rfl, Nat.le_of_ble_eq_true rfl⟩) (tn_preS hK hP hD) rfl rfl hl.1 rfl (lv_room (Nat.le_of_ble_eq_true rfl)) dX0_findPath_8 ⟨Nat.le_of_ble_eq_true rfl, Nat.le_of_ble_eq_true rfl⟩) hS (fun q _ h => hF q h) hF (fun r_8 u_8 t H1 locs ht hvm hw_8 hB hz1 hk1 hS => ?_)
    obtain ⟨hP1, -, hD1⟩ := hB
    rw [ht] at hP1
    have hD := hD1.weaken (fun _ q _ hq => hF q.1 hq)
    clear hP hk1 hF hz1 ht hvm hD1
    generalize H1 = H at hP1 hS ⊢
    have hP := hP1
    clear hP1
    refine lv_if_ne (tgt := 16) hx hb dX0_findPath_11 (by decide) (fun c_11 => ?_) (fun c_11 => ?_)
    · skip
      obtain ⟨jb, hjb, ejb⟩ : ∃ j, j < 20 ∧ y = nI j := by
        rcases hw_8 with ⟨_, q⟩ | ⟨q, _⟩
        · exact q
        · exact absurd (q : r_8 = 0) c_11
      subst ejb
      refine lv_aload_n hx hb dX0_findPath_16 rfl (lv_at hl 0 rfl) ?_
      refine lv_iload_n hx hb dX0_findPath_17 rfl (lv_at hl 2 rfl) ?_
      have hF := tn_freeA hD hS hA
      refine va_callv (va_runV (As := [.int (nI jb)]) (rest := []) ⟨hx, hb, hml, hown, hts⟩ (cX0_measureTo_ok l dC dI h a1 a2 a3 a4 a5 a6 a7 cI cL cZ cnt onc fp sp mo on lf sf rp rs rl H.size g jb hjb) (cwV 1 hts gX0_findPath_X0_measureTo rfl rfl rfl (by decide +kernel) ⟨Nat.le_of_ble_eq_true rfl, Nat.le_of_ble_eq_true rfl⟩) (tn_preV hK hP hD (ci := 0) rfl 0 rfl) rfl rfl hl.1 rfl (lv_room (Nat.le_of_ble_eq_true rfl)) dX0_findPath_18 ⟨Nat.le_of_ble_eq_true rfl, Nat.le_of_ble_eq_true rfl⟩) hS (fun q _ h => hF q h) hF (fun u_18 t H1 locs ht hvm hw_18 hB hz1 hk1 hS => ?_)
      obtain ⟨hP1, -, hD1⟩ := hB
      rw [ht] at hP1
      have hD := hD1.weaken (fun _ q _ hq => hF q.1 hq)
      clear hP hk1 hF hz1 ht hvm hD1
      generalize H1 = H at hP1 hS ⊢
      have hP := hP1
      clear hP1
      refine lv_aload_n hx hb dX0_findPath_21 rfl (lv_at hl 0 rfl) ?_
      refine va_get (D := (dC, dI)) (ci := 0) (v := .ref a5) (C := RX0) (T := TX0) (N := 11) hx hb hts hin hown hK hP 0 rfl rfl 6 (by decide) kf24 (fun _ h9 => h9) rfl dX0_findPath_22 ?_
      refine lv_iload_n hx hb dX0_findPath_25 rfl (lv_at hl 1 rfl) ?_
      refine tn_lald (i := ja) (v := u_18.1 ja) hx hb hK hP 5 1 rfl rfl (by omega) (by decide) rfl dX0_findPath_26 ?_
      refine lv_ldc2 (v := 9223372036854775807) hx hb hown kc75 dX0_findPath_27 ?_
      refine tn_lc_eq (x := (u_18.1 ja)) (y := 9223372036854775807) (tgt := 38) hx hb dX0_findPath_30 dX0_findPath_31 (by decide) (fun c_30 => ?_) (fun c_30 => ?_)
      · skip
        refine lv_iconst (v := nI 0) hx hb dX0_findPath_38 (by decide) ?_
        exact W.zret (v := nI 0) hx hb hr rfl (fun t ht hW => ⟨⟨nI 0, (u_18.1, u_18.2), rfl, Or.inl ⟨ja, jb, hja, hjb, rfl, rfl, hw_18, Or.inl ⟨rfl, c_30⟩⟩, by rw [ht]; exact hP, va_K.moved hW.alike hK, hD⟩, hS.F ht⟩) hS.2.2 dX0_findPath_39
      · skip
        refine lv_iconst (v := nI 1) hx hb dX0_findPath_34 (by decide) ?_
        refine lv_goto (tgt := 39) hx hb dX0_findPath_35 (by decide) ?_
        exact W.zret (v := nI 1) hx hb hr rfl (fun t ht hW => ⟨⟨nI 1, (u_18.1, u_18.2), rfl, Or.inl ⟨ja, jb, hja, hjb, rfl, rfl, hw_18, Or.inr ⟨rfl, c_30⟩⟩, by rw [ht]; exact hP, va_K.moved hW.alike hK, hD⟩, hS.F ht⟩) hS.2.2 dX0_findPath_39
    · skip
      have hn_8 : ∀ j, j < 20 → y ≠ nI j := by
        rcases hw_8 with ⟨q, _⟩ | ⟨_, q⟩
        · exact absurd (q ▸ c_11 : nI 1 = 0) (by decide)
        · exact q
      refine lv_iconst (v := nI 0) hx hb dX0_findPath_14 (by decide) ?_
      exact W.zret (v := nI 0) hx hb hr rfl (fun t ht hW => ⟨⟨nI 0, (lf, sf), rfl, Or.inr ⟨fun a b _ hb q => hn_8 b hb q.2, rfl, rfl⟩, by rw [ht]; exact hP, va_K.moved hW.alike hK, hD⟩, hS.F ht⟩) hS.2.2 dX0_findPath_15
end
section
set_option maxHeartbeats 4000000 in
set_option maxRecDepth 100000 in
/-- append(pt) -/
theorem cX0_append_ok (l : Launch) (dC : Nat → ClassId) (dI : Nat → Nat → Nat) (h a1 a2 a3 a4 a5 a6 a7 : Nat) (cI cL cZ : ClassId) (cnt onc : Nat) (fp sp : Nat → Nat) (mo : Nat → Int64) (on : Nat → Bool) (lf : Nat → Int64) (sf : Nat → Int32) (rp : Nat → Nat) (rs : Nat) (rl : Int64) (sz : Nat) (hrs : rs < 21) (pt : Nat) : Met l yX0_append wsX0_append ({ frames := 0, cells := 0, slots := 0, locals := 0 }) (va_Pc [.ref h, .int (nI pt)] (tn_Pre dC dI (tn_tys cI cL cZ) (tn_ws h a1 a2 a3 a4 a5 a6 a7 cI cL cZ cnt onc fp sp mo on lf sf rp rs rl) sz)) (va_Qv (S := Unit) (fun _ => True) (fun u t => tn_at dC dI (tn_tys cI cL cZ) (va_A (tn_ws h a1 a2 a3 a4 a5 a6 a7 cI cL cZ cnt onc fp sp mo on lf sf rp rs rl) sz) (tn_ws h a1 a2 a3 a4 a5 a6 a7 cI cL cZ cnt onc fp sp mo on lf sf (va_up rp rs pt) (rs + 1) rl) t) (va_A (tn_ws h a1 a2 a3 a4 a5 a6 a7 cI cL cZ cnt onc fp sp mo on lf sf rp rs rl) sz)) 0 0 (va_A (tn_ws h a1 a2 a3 a4 a5 a6 a7 cI cL cZ cnt onc fp sp mo on lf sf rp rs rl) sz) := by
  refine Met.ofW (cc := cX0_append) (maxL := 2) (ret := none) (by decide) rfl ?_
  intro p e s m args below meth c s₁ B hml hv
  obtain ⟨rfl, hsz, hP, hK, hD0⟩ := hv
  have hx := B.exec
  have hb := B.bytes
  have hr := B.returns
  have hts := atoms_spec (ws := wsX0_append) B.pre
  have hown : s.vm.findClass RX0 = some m.cls := findClass_of_methodNamed B.named
  have hlocks := B.notSynchronized
  subst hsz
  have hD := hD0.self (sz := s.heap.size)
  generalize hAe : va_A (tn_ws h a1 a2 a3 a4 a5 a6 a7 cI cL cZ cnt onc fp sp mo on lf sf rp rs rl) s.heap.size = A at hD ⊢
  have hA : ∀ q : Nat, s.heap.size ≤ q → A q := fun q h => by rw [← hAe]; exact Or.inr h
  have hS : va_S A s.heap s.heap [] := va_S.rf
  have hl := lv_entry ([.ref h, .int (nI pt)]) (n := 2) (Nat.le_of_ble_eq_true rfl)
  rw [lg_entry_eq]
  generalize (lg_sl ([.ref h, .int (nI pt)]) ++ List.replicate (2 - (lg_sl ([.ref h, .int (nI pt)])).length) Slot.unset).toArray = ls at hl ⊢
  have hl : lv_has ls 2 [(0, .ref h), (1, .int (nI pt))] := hl
  have kf65 := hts (.fieldLink RX0 65 "TimeNet" "rowSize" "I") (by decide +kernel)
  have kf30 := hts (.fieldLink RX0 30 "TimeNet" "rowPoints" "[I") (by decide +kernel)
  have hin : ∀ w ∈ u_ws RX0 TX0 11, w ∈ wsX0_append := by decide +kernel
  refine lv_aload_n hx hb dX0_append_0 rfl (lv_at hl 0 rfl) ?_
  refine va_get (D := (dC, dI)) (ci := 0) (v := .int (nI rs)) (C := RX0) (T := TX0) (N := 11) hx hb hts hin hown hK hP 0 rfl rfl 9 (by decide) kf65 (fun _ h9 => h9) rfl dX0_append_1 ?_
  refine lv_aload_n hx hb dX0_append_4 rfl (lv_at hl 0 rfl) ?_
  refine va_get (D := (dC, dI)) (ci := 0) (v := .ref a7) (C := RX0) (T := TX0) (N := 11) hx hb hts hin hown hK hP 0 rfl rfl 8 (by decide) kf30 (fun _ h9 => h9) rfl dX0_append_5 ?_
  refine va_alen (v := nI 21) hx hb hK hP 7 0 rfl rfl rfl dX0_append_8 ?_
  refine lv_icmp_ge (tgt := 32) hx hb dX0_append_9 (by decide) (fun c_9 => ?_) (fun c_9 => ?_)
  · skip
    exact absurd c_9 (nI_ge hrs (by decide))
  · skip
    refine lv_aload_n hx hb dX0_append_12 rfl (lv_at hl 0 rfl) ?_
    refine va_get (D := (dC, dI)) (ci := 0) (v := .ref a7) (C := RX0) (T := TX0) (N := 11) hx hb hts hin hown hK hP 0 rfl rfl 8 (by decide) kf30 (fun _ h9 => h9) rfl dX0_append_13 ?_
    refine lv_aload_n hx hb dX0_append_16 rfl (lv_at hl 0 rfl) ?_
    refine va_get (D := (dC, dI)) (ci := 0) (v := .int (nI rs)) (C := RX0) (T := TX0) (N := 11) hx hb hts hin hown hK hP 0 rfl rfl 9 (by decide) kf65 (fun _ h9 => h9) rfl dX0_append_17 ?_
    refine lv_iload_n hx hb dX0_append_20 rfl (lv_at hl 1 rfl) ?_
    refine tn_iast (i := rs) (f' := (fun k => nI (va_up rp rs pt k))) hx hb hK hP hD hS 7 0 rfl rfl (by omega) (by decide) (tn_updN rp rs pt) dX0_append_21 (fun H locs hP hD hS => ?_)
    have hP : va_P (dC, dI) vwCl (tn_ws h a1 a2 a3 a4 a5 a6 a7 cI cL cZ cnt onc fp sp mo on lf sf (va_up rp rs pt) rs rl) H := hP
    have hD : va_D A (tn_ws h a1 a2 a3 a4 a5 a6 a7 cI cL cZ cnt onc fp sp mo on lf sf (va_up rp rs pt) rs rl) := hD
    refine lv_aload_n hx hb dX0_append_22 rfl (lv_at hl 0 rfl) ?_
    refine lv_dup hx hb dX0_append_23 rfl ?_
    refine va_get (D := (dC, dI)) (ci := 0) (v := .int (nI rs)) (C := RX0) (T := TX0) (N := 11) hx hb hts hin hown hK hP 0 rfl rfl 9 (by decide) kf65 (fun _ h9 => h9) rfl dX0_append_24 ?_
    refine lv_iconst (v := nI 1) hx hb dX0_append_27 (by decide) ?_
    refine tn_iadd (a := rs) (b := 1) hx hb dX0_append_28 ?_
    refine va_put (D := (dC, dI)) (ci := 0) (v := .int (nI (rs + 1))) (ty := .int) (C := RX0) (T := TX0) (N := 11) hx hb hts hin tyX0 tyX0_ok nmX0 hown hK hP hD hS 0 rfl rfl 9 (by decide) kf65 (fun _ h9 => h9) rfl (by decide +kernel) rfl rfl (Nat.le_of_ble_eq_true rfl) dX0_append_29 (fun H locs hP hD hS => ?_)
    have hP : va_P (dC, dI) vwCl (tn_ws h a1 a2 a3 a4 a5 a6 a7 cI cL cZ cnt onc fp sp mo on lf sf (va_up rp rs pt) (rs + 1) rl) H := hP
    have hD : va_D A (tn_ws h a1 a2 a3 a4 a5 a6 a7 cI cL cZ cnt onc fp sp mo on lf sf (va_up rp rs pt) (rs + 1) rl) := hD
    exact W.vret hx hb hr (fun t ht hW => ⟨⟨(), rfl, trivial, by rw [ht]; exact hP, va_K.moved hW.alike hK, hD⟩, hS.F ht⟩) hS.2.2 dX0_append_32
set_option maxHeartbeats 4000000 in
set_option maxRecDepth 100000 in
/-- beginsBest(k) -/
theorem cX0_beginsBest_ok (l : Launch) (dC : Nat → ClassId) (dI : Nat → Nat → Nat) (h a1 a2 a3 a4 a5 a6 a7 : Nat) (cI cL cZ : ClassId) (cnt onc : Nat) (fp sp : Nat → Nat) (mo : Nat → Int64) (on : Nat → Bool) (lf : Nat → Int64) (sf : Nat → Int32) (rp : Nat → Nat) (rs : Nat) (rl : Int64) (sz : Nat) (g : tn_good cnt fp sp mo) (k : Nat) (hk : k < cnt) : Met l yX0_beginsBest wsX0_beginsBest ({ frames := 0, cells := 0, slots := 0, locals := 0 }) (va_Pc [.ref h, .int (nI k)] (tn_Pre dC dI (tn_tys cI cL cZ) (tn_ws h a1 a2 a3 a4 a5 a6 a7 cI cL cZ cnt onc fp sp mo on lf sf rp rs rl) sz)) (va_Qi (S := Unit) (fun r _ => ((lf (sp k) ≠ tn_MX ∧ mo k + lf (sp k) = lf (fp k) ∧ sf (sp k) + 1 = sf (fp k)) ∧ r = nI 1) ∨ (¬ (lf (sp k) ≠ tn_MX ∧ mo k + lf (sp k) = lf (fp k) ∧ sf (sp k) + 1 = sf (fp k)) ∧ r = nI 0)) (fun u t => tn_at dC dI (tn_tys cI cL cZ) (va_A (tn_ws h a1 a2 a3 a4 a5 a6 a7 cI cL cZ cnt onc fp sp mo on lf sf rp rs rl) sz) (tn_ws h a1 a2 a3 a4 a5 a6 a7 cI cL cZ cnt onc fp sp mo on lf sf rp rs rl) t) (va_A (tn_ws h a1 a2 a3 a4 a5 a6 a7 cI cL cZ cnt onc fp sp mo on lf sf rp rs rl) sz)) 0 0 (va_A (tn_ws h a1 a2 a3 a4 a5 a6 a7 cI cL cZ cnt onc fp sp mo on lf sf rp rs rl) sz) := by
  refine Met.ofW (cc := cX0_beginsBest) (maxL := 4) (ret := (some .boolean)) (by decide) rfl ?_
  intro p e s m args below meth c s₁ B hml hv
  obtain ⟨rfl, hsz, hP, hK, hD0⟩ := hv
  have hx := B.exec
  have hb := B.bytes
  have hr := B.returns
  have hts := atoms_spec (ws := wsX0_beginsBest) B.pre
  have hown : s.vm.findClass RX0 = some m.cls := findClass_of_methodNamed B.named
  have hlocks := B.notSynchronized
  subst hsz
  have hD := hD0.self (sz := s.heap.size)
  generalize hAe : va_A (tn_ws h a1 a2 a3 a4 a5 a6 a7 cI cL cZ cnt onc fp sp mo on lf sf rp rs rl) s.heap.size = A at hD ⊢
  have hA : ∀ q : Nat, s.heap.size ≤ q → A q := fun q h => by rw [← hAe]; exact Or.inr h
  have hS : va_S A s.heap s.heap [] := va_S.rf
  have hl := lv_entry ([.ref h, .int (nI k)]) (n := 4) (Nat.le_of_ble_eq_true rfl)
  rw [lg_entry_eq]
  generalize (lg_sl ([.ref h, .int (nI k)]) ++ List.replicate (4 - (lg_sl ([.ref h, .int (nI k)])).length) Slot.unset).toArray = ls at hl ⊢
  have hl : lv_has ls 4 [(0, .ref h), (1, .int (nI k))] := hl
  have kf9 := hts (.fieldLink RX0 9 "TimeNet" "firstPoint" "[I") (by decide +kernel)
  have kf13 := hts (.fieldLink RX0 13 "TimeNet" "secondPoint" "[I") (by decide +kernel)
  have kf24 := hts (.fieldLink RX0 24 "TimeNet" "lengthFrom" "[J") (by decide +kernel)
  have kc75 := hts (.constantLong RX0 75 (9223372036854775807)) (by decide +kernel)
  have kf16 := hts (.fieldLink RX0 16 "TimeNet" "most" "[J") (by decide +kernel)
  have kf27 := hts (.fieldLink RX0 27 "TimeNet" "stepsFrom" "[I") (by decide +kernel)
  have hin : ∀ w ∈ u_ws RX0 TX0 11, w ∈ wsX0_beginsBest := by decide +kernel
  have hk0 := (g.2 k hk).1
  have hk1 := (g.2 k hk).2.1
  have hc := g.1
  refine lv_aload_n hx hb dX0_beginsBest_0 rfl (lv_at hl 0 rfl) ?_
  refine va_get (D := (dC, dI)) (ci := 0) (v := .ref a1) (C := RX0) (T := TX0) (N := 11) hx hb hts hin hown hK hP 0 rfl rfl 0 (by decide) kf9 (fun _ h9 => h9) rfl dX0_beginsBest_1 ?_
  refine lv_iload_n hx hb dX0_beginsBest_4 rfl (lv_at hl 1 rfl) ?_
  refine tn_iald (i := k) (v := nI (fp k)) hx hb hK hP 1 0 rfl rfl (by omega) (by decide) rfl dX0_beginsBest_5 ?_
  refine lv_istore_n (lv' := [(2, .int (nI (fp k))), (0, .ref h), (1, .int (nI k))]) hx hb dX0_beginsBest_6 rfl hl (by decide) rfl (fun ls hl => ?_)
  refine lv_aload_n hx hb dX0_beginsBest_7 rfl (lv_at hl 1 rfl) ?_
  refine va_get (D := (dC, dI)) (ci := 0) (v := .ref a2) (C := RX0) (T := TX0) (N := 11) hx hb hts hin hown hK hP 0 rfl rfl 1 (by decide) kf13 (fun _ h9 => h9) rfl dX0_beginsBest_8 ?_
  refine lv_iload_n hx hb dX0_beginsBest_11 rfl (lv_at hl 2 rfl) ?_
  refine tn_iald (i := k) (v := nI (sp k)) hx hb hK hP 2 0 rfl rfl (by omega) (by decide) rfl dX0_beginsBest_12 ?_
  refine lv_istore_n (lv' := [(3, .int (nI (sp k))), (2, .int (nI (fp k))), (0, .ref h), (1, .int (nI k))]) hx hb dX0_beginsBest_13 rfl hl (by decide) rfl (fun ls hl => ?_)
  refine lv_aload_n hx hb dX0_beginsBest_14 rfl (lv_at hl 2 rfl) ?_
  refine va_get (D := (dC, dI)) (ci := 0) (v := .ref a5) (C := RX0) (T := TX0) (N := 11) hx hb hts hin hown hK hP 0 rfl rfl 6 (by decide) kf24 (fun _ h9 => h9) rfl dX0_beginsBest_15 ?_
  refine lv_iload_n hx hb dX0_beginsBest_18 rfl (lv_at hl 0 rfl) ?_
  refine tn_lald (i := (sp k)) (v := lf (sp k)) hx hb hK hP 5 1 rfl rfl (by omega) (by decide) rfl dX0_beginsBest_19 ?_
  refine lv_ldc2 (v := 9223372036854775807) hx hb hown kc75 dX0_beginsBest_20 ?_
  refine tn_lc_eq (x := (lf (sp k))) (y := 9223372036854775807) (tgt := 71) hx hb dX0_beginsBest_23 dX0_beginsBest_24 (by decide) (fun c_23 => ?_) (fun c_23 => ?_)
  · skip
    refine lv_iconst (v := nI 0) hx hb dX0_beginsBest_71 (by decide) ?_
    exact W.zret (v := nI 0) hx hb hr rfl (fun t ht hW => ⟨⟨nI 0, (), rfl, Or.inr ⟨fun q => q.1 c_23, rfl⟩, by rw [ht]; exact hP, va_K.moved hW.alike hK, hD⟩, hS.F ht⟩) hS.2.2 dX0_beginsBest_72
  · skip
    refine lv_aload_n hx hb dX0_beginsBest_27 rfl (lv_at hl 2 rfl) ?_
    refine va_get (D := (dC, dI)) (ci := 0) (v := .ref a3) (C := RX0) (T := TX0) (N := 11) hx hb hts hin hown hK hP 0 rfl rfl 2 (by decide) kf16 (fun _ h9 => h9) rfl dX0_beginsBest_28 ?_
    refine lv_iload_n hx hb dX0_beginsBest_31 rfl (lv_at hl 3 rfl) ?_
    refine tn_lald (i := k) (v := mo k) hx hb hK hP 3 1 rfl rfl (by omega) (by decide) rfl dX0_beginsBest_32 ?_
    refine lv_aload_n hx hb dX0_beginsBest_33 rfl (lv_at hl 2 rfl) ?_
    refine va_get (D := (dC, dI)) (ci := 0) (v := .ref a5) (C := RX0) (T := TX0) (N := 11) hx hb hts hin hown hK hP 0 rfl rfl 6 (by decide) kf24 (fun _ h9 => h9) rfl dX0_beginsBest_34 ?_
    refine lv_iload_n hx hb dX0_beginsBest_37 rfl (lv_at hl 0 rfl) ?_
    refine tn_lald (i := (sp k)) (v := lf (sp k)) hx hb hK hP 5 1 rfl rfl (by omega) (by decide) rfl dX0_beginsBest_38 ?_
    refine lv_ladd hx hb dX0_beginsBest_39 ?_
    refine lv_aload_n hx hb dX0_beginsBest_40 rfl (lv_at hl 2 rfl) ?_
    refine va_get (D := (dC, dI)) (ci := 0) (v := .ref a5) (C := RX0) (T := TX0) (N := 11) hx hb hts hin hown hK hP 0 rfl rfl 6 (by decide) kf24 (fun _ h9 => h9) rfl dX0_beginsBest_41 ?_
    refine lv_iload_n hx hb dX0_beginsBest_44 rfl (lv_at hl 1 rfl) ?_
    refine tn_lald (i := (fp k)) (v := lf (fp k)) hx hb hK hP 5 1 rfl rfl (by omega) (by decide) rfl dX0_beginsBest_45 ?_
    refine tn_lc_ne (x := ((mo k) + (lf (sp k)))) (y := (lf (fp k))) (tgt := 71) hx hb dX0_beginsBest_46 dX0_beginsBest_47 (by decide) (fun c_46 => ?_) (fun c_46 => ?_)
    · skip
      refine lv_iconst (v := nI 0) hx hb dX0_beginsBest_71 (by decide) ?_
      exact W.zret (v := nI 0) hx hb hr rfl (fun t ht hW => ⟨⟨nI 0, (), rfl, Or.inr ⟨fun q => c_46 q.2.1, rfl⟩, by rw [ht]; exact hP, va_K.moved hW.alike hK, hD⟩, hS.F ht⟩) hS.2.2 dX0_beginsBest_72
    · skip
      refine lv_aload_n hx hb dX0_beginsBest_50 rfl (lv_at hl 2 rfl) ?_
      refine va_get (D := (dC, dI)) (ci := 0) (v := .ref a6) (C := RX0) (T := TX0) (N := 11) hx hb hts hin hown hK hP 0 rfl rfl 7 (by decide) kf27 (fun _ h9 => h9) rfl dX0_beginsBest_51 ?_
      refine lv_iload_n hx hb dX0_beginsBest_54 rfl (lv_at hl 0 rfl) ?_
      refine tn_iald (i := (sp k)) (v := sf (sp k)) hx hb hK hP 6 0 rfl rfl (by omega) (by decide) rfl dX0_beginsBest_55 ?_
      refine lv_iconst (v := nI 1) hx hb dX0_beginsBest_56 (by decide) ?_
      refine lv_iadd hx hb dX0_beginsBest_57 ?_
      refine lv_aload_n hx hb dX0_beginsBest_58 rfl (lv_at hl 2 rfl) ?_
      refine va_get (D := (dC, dI)) (ci := 0) (v := .ref a6) (C := RX0) (T := TX0) (N := 11) hx hb hts hin hown hK hP 0 rfl rfl 7 (by decide) kf27 (fun _ h9 => h9) rfl dX0_beginsBest_59 ?_
      refine lv_iload_n hx hb dX0_beginsBest_62 rfl (lv_at hl 1 rfl) ?_
      refine tn_iald (i := (fp k)) (v := sf (fp k)) hx hb hK hP 6 0 rfl rfl (by omega) (by decide) rfl dX0_beginsBest_63 ?_
      refine lv_icmp_ne (tgt := 71) hx hb dX0_beginsBest_64 (by decide) (fun c_64 => ?_) (fun c_64 => ?_)
      · skip
        refine lv_iconst (v := nI 0) hx hb dX0_beginsBest_71 (by decide) ?_
        exact W.zret (v := nI 0) hx hb hr rfl (fun t ht hW => ⟨⟨nI 0, (), rfl, Or.inr ⟨fun q => c_64 q.2.2, rfl⟩, by rw [ht]; exact hP, va_K.moved hW.alike hK, hD⟩, hS.F ht⟩) hS.2.2 dX0_beginsBest_72
      · skip
        refine lv_iconst (v := nI 1) hx hb dX0_beginsBest_67 (by decide) ?_
        refine lv_goto (tgt := 72) hx hb dX0_beginsBest_68 (by decide) ?_
        exact W.zret (v := nI 1) hx hb hr rfl (fun t ht hW => ⟨⟨nI 1, (), rfl, Or.inl ⟨⟨c_23, c_46, c_64⟩, rfl⟩, by rw [ht]; exact hP, va_K.moved hW.alike hK, hD⟩, hS.F ht⟩) hS.2.2 dX0_beginsBest_72
set_option maxHeartbeats 4000000 in
set_option maxRecDepth 100000 in
/-- nextOfBest(pt) -/
theorem cX0_nextOfBest_ok (l : Launch) (dC : Nat → ClassId) (dI : Nat → Nat → Nat) (h a1 a2 a3 a4 a5 a6 a7 : Nat) (cI cL cZ : ClassId) (cnt onc : Nat) (fp sp : Nat → Nat) (mo : Nat → Int64) (on : Nat → Bool) (lf : Nat → Int64) (sf : Nat → Int32) (rp : Nat → Nat) (rs : Nat) (rl : Int64) (sz : Nat) (g : tn_good cnt fp sp mo) (pt : Nat) (hpt : pt ≤ 20) : Met l yX0_nextOfBest wsX0_nextOfBest ({ frames := 1, cells := 0, slots := 0, locals := 23 }) (va_Pc [.ref h, .int (nI pt)] (tn_Pre dC dI (tn_tys cI cL cZ) (tn_ws h a1 a2 a3 a4 a5 a6 a7 cI cL cZ cnt onc fp sp mo on lf sf rp rs rl) sz)) (va_Qi (S := Unit) (fun r _ => r = nI (tn_nxt fp sp mo on (lf, sf) pt cnt)) (fun u t => tn_at dC dI (tn_tys cI cL cZ) (va_A (tn_ws h a1 a2 a3 a4 a5 a6 a7 cI cL cZ cnt onc fp sp mo on lf sf rp rs rl) sz) (tn_ws h a1 a2 a3 a4 a5 a6 a7 cI cL cZ cnt onc fp sp mo on lf sf rp rs rl) t) (va_A (tn_ws h a1 a2 a3 a4 a5 a6 a7 cI cL cZ cnt onc fp sp mo on lf sf rp rs rl) sz)) 0 0 (va_A (tn_ws h a1 a2 a3 a4 a5 a6 a7 cI cL cZ cnt onc fp sp mo on lf sf rp rs rl) sz) := by
  refine Met.ofW (cc := cX0_nextOfBest) (maxL := 4) (ret := (some .int)) (by decide) rfl ?_
  intro p e s m args below meth c s₁ B hml hv
  obtain ⟨rfl, hsz, hP, hK, hD0⟩ := hv
  have hx := B.exec
  have hb := B.bytes
  have hr := B.returns
  have hts := atoms_spec (ws := wsX0_nextOfBest) B.pre
  have hown : s.vm.findClass RX0 = some m.cls := findClass_of_methodNamed B.named
  have hlocks := B.notSynchronized
  subst hsz
  have hD := hD0.self (sz := s.heap.size)
  generalize hAe : va_A (tn_ws h a1 a2 a3 a4 a5 a6 a7 cI cL cZ cnt onc fp sp mo on lf sf rp rs rl) s.heap.size = A at hD ⊢
  have hA : ∀ q : Nat, s.heap.size ≤ q → A q := fun q h => by rw [← hAe]; exact Or.inr h
  have hS : va_S A s.heap s.heap [] := va_S.rf
  have hl := lv_entry ([.ref h, .int (nI pt)]) (n := 4) (Nat.le_of_ble_eq_true rfl)
  rw [lg_entry_eq]
  generalize (lg_sl ([.ref h, .int (nI pt)]) ++ List.replicate (4 - (lg_sl ([.ref h, .int (nI pt)])).length) Slot.unset).toArray = ls at hl ⊢
  have hl : lv_has ls 4 [(0, .ref h), (1, .int (nI pt))] := hl
  have kf33 := hts (.fieldLink RX0 33 "TimeNet" "count" "I") (by decide +kernel)
  have kf9 := hts (.fieldLink RX0 9 "TimeNet" "firstPoint" "[I") (by decide +kernel)
  have kf13 := hts (.fieldLink RX0 13 "TimeNet" "secondPoint" "[I") (by decide +kernel)
  have kf20 := hts (.fieldLink RX0 20 "TimeNet" "isOn" "[Z") (by decide +kernel)
  have hin : ∀ w ∈ u_ws RX0 TX0 11, w ∈ wsX0_nextOfBest := by decide +kernel
  have hc := g.1
  have loop : ∀ (n : Nat) (k : Nat) (z : Nat) (H : Heap) (locs : List Loc) (ls : Array Slot), k ≤ cnt → cnt < k + n → tn_nxt fp sp mo on (lf, sf) pt k = z → va_P (dC, dI) vwCl (tn_ws h a1 a2 a3 a4 a5 a6 a7 cI cL cZ cnt onc fp sp mo on lf sf rp rs rl) H → va_D A (tn_ws h a1 a2 a3 a4 a5 a6 a7 cI cL cZ cnt onc fp sp mo on lf sf rp rs rl) → va_S A s.heap H locs → lv_has ls 4 [(0, .ref h), (1, .int (nI pt)), (2, .int (nI z)), (3, .int (nI k))] → W p l e (headSpec wsX0_nextOfBest ({ frames := 1, cells := 0, slots := 0, locals := 23 })).room s m ([.ref h, .int (nI pt)] : List Value).toArray below meth c H locs 0 0 (MQ below (va_Qi (S := Unit) (fun r _ => r = nI (tn_nxt fp sp mo on (lf, sf) pt cnt)) (fun u t => tn_at dC dI (tn_tys cI cL cZ) A (tn_ws h a1 a2 a3 a4 a5 a6 a7 cI cL cZ cnt onc fp sp mo on lf sf rp rs rl) t) A) (([.ref h, .int (nI pt)] : List Value).toArray) s 0 0 A) (F0 m 5 ls []) := by
    intro n
    induction n with
    | zero => intro k z H locs ls hk1 hk9 hz _ _ _ _; exact absurd hk9 (by omega)
    | succ n ih =>
      intro k z H locs ls hk1 hk9 hz hP hD hS hl
      subst hz
      refine lv_iload_n hx hb dX0_nextOfBest_5 rfl (lv_at hl 3 rfl) ?_
      refine lv_aload_n hx hb dX0_nextOfBest_6 rfl (lv_at hl 0 rfl) ?_
      refine va_get (D := (dC, dI)) (ci := 0) (v := .int (nI cnt)) (C := RX0) (T := TX0) (N := 11) hx hb hts hin hown hK hP 0 rfl rfl 4 (by decide) kf33 (fun _ h9 => h9) rfl dX0_nextOfBest_7 ?_
      refine lv_icmp_ge (tgt := 63) hx hb dX0_nextOfBest_10 (by decide) (fun c_10 => ?_) (fun c_10 => ?_)
      · skip
        have hkc : k = cnt := Nat.le_antisymm hk1 ((nI_leI (by omega) (by omega)).mp c_10)
        subst hkc
        refine lv_iload_n hx hb dX0_nextOfBest_63 rfl (lv_at hl 2 rfl) ?_
        exact W.iret (v := nI (tn_nxt fp sp mo on (lf, sf) pt k)) hx hb hr (fun t ht hW => ⟨⟨nI (tn_nxt fp sp mo on (lf, sf) pt k), (), rfl, rfl, by rw [ht]; exact hP, va_K.moved hW.alike hK, hD⟩, hS.F ht⟩) hS.2.2 dX0_nextOfBest_64
      · skip
        have hkc : k < cnt := Nat.lt_of_not_le (fun q => c_10 (nI_le q (by omega)))
        have hk2 := (g.2 k hkc).1
        have hk3 := (g.2 k hkc).2.1
        have hnl := tn_nxt_le fp sp mo on (lf, sf) pt k
        refine lv_aload_n hx hb dX0_nextOfBest_13 rfl (lv_at hl 0 rfl) ?_
        refine va_get (D := (dC, dI)) (ci := 0) (v := .ref a1) (C := RX0) (T := TX0) (N := 11) hx hb hts hin hown hK hP 0 rfl rfl 0 (by decide) kf9 (fun _ h9 => h9) rfl dX0_nextOfBest_14 ?_
        refine lv_iload_n hx hb dX0_nextOfBest_17 rfl (lv_at hl 3 rfl) ?_
        refine tn_iald (i := k) (v := nI (fp k)) hx hb hK hP 1 0 rfl rfl (by omega) (by decide) rfl dX0_nextOfBest_18 ?_
        refine lv_iload_n hx hb dX0_nextOfBest_19 rfl (lv_at hl 1 rfl) ?_
        refine lv_icmp_ne (tgt := 57) hx hb dX0_nextOfBest_20 (by decide) (fun c_20 => ?_) (fun c_20 => ?_)
        · skip
          have hfk : fp k ≠ pt := fun q => c_20 (by rw [q])
          refine lv_iinc (v := nI (k + 1)) (lv' := [(3, .int (nI (k + 1))), (0, .ref h), (1, .int (nI pt)), (2, .int (nI (tn_nxt fp sp mo on (lf, sf) pt k)))]) hx hb dX0_nextOfBest_57 hl (k := 3) rfl (tn_inc k) (by decide) rfl (fun ls hl => ?_)
          refine lv_goto (tgt := 5) hx hb dX0_nextOfBest_60 (by decide) ?_
          exact ih (k + 1) _ _ _ _ hkc (by omega) (by rw [tn_nxt, if_neg (fun q => hfk q.1)]) hP hD hS (lv_sub hl [1, 2, 3, 0] rfl)
        · skip
          have hfk : fp k = pt := (nI_eq (by omega) (by omega)).mp c_20
          refine lv_aload_n hx hb dX0_nextOfBest_23 rfl (lv_at hl 0 rfl) ?_
          refine va_get (D := (dC, dI)) (ci := 0) (v := .ref a2) (C := RX0) (T := TX0) (N := 11) hx hb hts hin hown hK hP 0 rfl rfl 1 (by decide) kf13 (fun _ h9 => h9) rfl dX0_nextOfBest_24 ?_
          refine lv_iload_n hx hb dX0_nextOfBest_27 rfl (lv_at hl 3 rfl) ?_
          refine tn_iald (i := k) (v := nI (sp k)) hx hb hK hP 2 0 rfl rfl (by omega) (by decide) rfl dX0_nextOfBest_28 ?_
          refine lv_iload_n hx hb dX0_nextOfBest_29 rfl (lv_at hl 2 rfl) ?_
          refine lv_icmp_ge (tgt := 57) hx hb dX0_nextOfBest_30 (by decide) (fun c_30 => ?_) (fun c_30 => ?_)
          · skip
            have hsk : ¬ sp k < tn_nxt fp sp mo on (lf, sf) pt k := Nat.not_lt.mpr ((nI_leI (by omega) (by omega)).mp c_30)
            refine lv_iinc (v := nI (k + 1)) (lv' := [(3, .int (nI (k + 1))), (0, .ref h), (1, .int (nI pt)), (2, .int (nI (tn_nxt fp sp mo on (lf, sf) pt k)))]) hx hb dX0_nextOfBest_57 hl (k := 3) rfl (tn_inc k) (by decide) rfl (fun ls hl => ?_)
            refine lv_goto (tgt := 5) hx hb dX0_nextOfBest_60 (by decide) ?_
            exact ih (k + 1) _ _ _ _ hkc (by omega) (by rw [tn_nxt, if_neg (fun q => hsk q.2.1)]) hP hD hS (lv_sub hl [1, 2, 3, 0] rfl)
          · skip
            have hsk : sp k < tn_nxt fp sp mo on (lf, sf) pt k := Nat.lt_of_not_le (fun q => c_30 (nI_le q (by omega)))
            refine lv_aload_n hx hb dX0_nextOfBest_33 rfl (lv_at hl 0 rfl) ?_
            refine va_get (D := (dC, dI)) (ci := 0) (v := .ref a4) (C := RX0) (T := TX0) (N := 11) hx hb hts hin hown hK hP 0 rfl rfl 3 (by decide) kf20 (fun _ h9 => h9) rfl dX0_nextOfBest_34 ?_
            refine lv_iload_n hx hb dX0_nextOfBest_37 rfl (lv_at hl 3 rfl) ?_
            refine tn_zald (i := k) (v := tn_b (on k)) hx hb hK hP 4 2 rfl rfl (by omega) (by decide) rfl dX0_nextOfBest_38 ?_
            refine lv_if_eq (tgt := 57) hx hb dX0_nextOfBest_39 (by decide) (fun c_39 => ?_) (fun c_39 => ?_)
            · skip
              have ho := tn_b_eq0 c_39
              refine lv_iinc (v := nI (k + 1)) (lv' := [(3, .int (nI (k + 1))), (0, .ref h), (1, .int (nI pt)), (2, .int (nI (tn_nxt fp sp mo on (lf, sf) pt k)))]) hx hb dX0_nextOfBest_57 hl (k := 3) rfl (tn_inc k) (by decide) rfl (fun ls hl => ?_)
              refine lv_goto (tgt := 5) hx hb dX0_nextOfBest_60 (by decide) ?_
              exact ih (k + 1) _ _ _ _ hkc (by omega) (by rw [tn_nxt, if_neg (fun q => by rw [ho] at q; exact absurd q.2.2.1 (by decide))]) hP hD hS (lv_sub hl [1, 2, 3, 0] rfl)
            · skip
              have ho := tn_b_ne0 c_39
              refine lv_aload_n hx hb dX0_nextOfBest_42 rfl (lv_at hl 0 rfl) ?_
              refine lv_iload_n hx hb dX0_nextOfBest_43 rfl (lv_at hl 3 rfl) ?_
              have hF := tn_freeA hD hS hA
              refine va_calli (va_runV (As := [.int (nI k)]) (rest := []) ⟨hx, hb, hml, hown, hts⟩ (cX0_beginsBest_ok l dC dI h a1 a2 a3 a4 a5 a6 a7 cI cL cZ cnt onc fp sp mo on lf sf rp rs rl H.size g k hkc) (cwV 1 hts gX0_nextOfBest_X0_beginsBest rfl rfl rfl (by decide +kernel) ⟨Nat.le_of_ble_eq_true rfl, Nat.le_of_ble_eq_true rfl⟩) (tn_preV hK hP hD (ci := 0) rfl 0 rfl) rfl rfl hl.1 rfl (lv_room (Nat.le_of_ble_eq_true rfl)) dX0_nextOfBest_44 ⟨Nat.le_of_ble_eq_true rfl, Nat.le_of_ble_eq_true rfl⟩) hS (fun q _ h => hF q h) hF (fun r_44 u_44 t H1 locs ht hvm hw_44 hB hz1 hk1 hS => ?_)
              obtain ⟨hP1, -, hD1⟩ := hB
              rw [ht] at hP1
              have hD := hD1.weaken (fun _ q _ hq => hF q.1 hq)
              clear hP hk1 hF hz1 ht hvm hD1
              generalize H1 = H at hP1 hS ⊢
              have hP := hP1
              clear hP1
              refine lv_if_eq (tgt := 57) hx hb dX0_nextOfBest_47 (by decide) (fun c_47 => ?_) (fun c_47 => ?_)
              · skip
                have hbb : ¬ (lf (sp k) ≠ tn_MX ∧ mo k + lf (sp k) = lf (fp k) ∧ sf (sp k) + 1 = sf (fp k)) := by
                  rcases hw_44 with ⟨_, q⟩ | ⟨q, _⟩
                  · exact absurd (q ▸ c_47 : nI 1 = 0) (by decide)
                  · exact q
                refine lv_iinc (v := nI (k + 1)) (lv' := [(3, .int (nI (k + 1))), (0, .ref h), (1, .int (nI pt)), (2, .int (nI (tn_nxt fp sp mo on (lf, sf) pt k)))]) hx hb dX0_nextOfBest_57 hl (k := 3) rfl (tn_inc k) (by decide) rfl (fun ls hl => ?_)
                refine lv_goto (tgt := 5) hx hb dX0_nextOfBest_60 (by decide) ?_
                exact ih (k + 1) _ _ _ _ hkc (by omega) (by rw [tn_nxt, if_neg (fun q => hbb q.2.2.2)]) hP hD hS (lv_sub hl [1, 2, 3, 0] rfl)
              · skip
                have hbb : (lf (sp k) ≠ tn_MX ∧ mo k + lf (sp k) = lf (fp k) ∧ sf (sp k) + 1 = sf (fp k)) := by
                  rcases hw_44 with ⟨q, _⟩ | ⟨_, q⟩
                  · exact q
                  · exact absurd (q : r_44 = 0) c_47
                refine lv_aload_n hx hb dX0_nextOfBest_50 rfl (lv_at hl 0 rfl) ?_
                refine va_get (D := (dC, dI)) (ci := 0) (v := .ref a2) (C := RX0) (T := TX0) (N := 11) hx hb hts hin hown hK hP 0 rfl rfl 1 (by decide) kf13 (fun _ h9 => h9) rfl dX0_nextOfBest_51 ?_
                refine lv_iload_n hx hb dX0_nextOfBest_54 rfl (lv_at hl 3 rfl) ?_
                refine tn_iald (i := k) (v := nI (sp k)) hx hb hK hP 2 0 rfl rfl (by omega) (by decide) rfl dX0_nextOfBest_55 ?_
                refine lv_istore_n (lv' := [(2, .int (nI (sp k))), (0, .ref h), (1, .int (nI pt)), (3, .int (nI k))]) hx hb dX0_nextOfBest_56 rfl hl (by decide) rfl (fun ls hl => ?_)
                refine lv_iinc (v := nI (k + 1)) (lv' := [(3, .int (nI (k + 1))), (2, .int (nI (sp k))), (0, .ref h), (1, .int (nI pt))]) hx hb dX0_nextOfBest_57 hl (k := 3) rfl (tn_inc k) (by decide) rfl (fun ls hl => ?_)
                refine lv_goto (tgt := 5) hx hb dX0_nextOfBest_60 (by decide) ?_
                exact ih (k + 1) _ _ _ _ hkc (by omega) (by rw [tn_nxt, if_pos ⟨hfk, hsk, ho, hbb⟩]) hP hD hS (lv_sub hl [2, 3, 1, 0] rfl)
  refine lv_bipush (v := nI 20) hx hb dX0_nextOfBest_0 (by decide) ?_
  refine lv_istore_n (lv' := [(2, .int (nI 20)), (0, .ref h), (1, .int (nI pt))]) hx hb dX0_nextOfBest_2 rfl hl (by decide) rfl (fun ls hl => ?_)
  refine lv_iconst (v := nI 0) hx hb dX0_nextOfBest_3 (by decide) ?_
  refine lv_istore_n (lv' := [(3, .int (nI 0)), (2, .int (nI 20)), (0, .ref h), (1, .int (nI pt))]) hx hb dX0_nextOfBest_4 rfl hl (by decide) rfl (fun ls hl => ?_)
  exact loop (cnt + 1) 0 20 _ _ _ (Nat.zero_le _) (by omega) rfl hP hD hS (lv_sub hl [2, 3, 1, 0] rfl)
set_option maxHeartbeats 4000000 in
set_option maxRecDepth 100000 in
/-- appendBestFrom(s0) -/
theorem cX0_appendBestFrom_ok (l : Launch) (dC : Nat → ClassId) (dI : Nat → Nat → Nat) (h a1 a2 a3 a4 a5 a6 a7 : Nat) (cI cL cZ : ClassId) (cnt onc : Nat) (fp sp : Nat → Nat) (mo : Nat → Int64) (on : Nat → Bool) (lf : Nat → Int64) (sf : Nat → Int32) (rp : Nat → Nat) (rs : Nat) (rl : Int64) (sz : Nat) (g : tn_good cnt fp sp mo) (s0 : Nat) (hs0 : s0 < 20) (n0 : Nat) (hsn : sf s0 = nI n0) (hrs : rs + 1 + n0 ≤ 21) : Met l yX0_appendBestFrom wsX0_appendBestFrom ({ frames := 2, cells := 0, slots := 0, locals := 46 }) (va_Pc [.ref h, .int (nI s0)] (tn_Pre dC dI (tn_tys cI cL cZ) (tn_ws h a1 a2 a3 a4 a5 a6 a7 cI cL cZ cnt onc fp sp mo on lf sf rp rs rl) sz)) (va_Qv (S := (Nat → Nat) × Nat) (fun u => u = (tn_put (fun q => tn_nxt fp sp mo on (lf, sf) q cnt) (rs + 1) n0 s0 (va_up rp rs s0), rs + 1 + n0)) (fun u t => tn_at dC dI (tn_tys cI cL cZ) (va_A (tn_ws h a1 a2 a3 a4 a5 a6 a7 cI cL cZ cnt onc fp sp mo on lf sf rp rs rl) sz) (tn_ws h a1 a2 a3 a4 a5 a6 a7 cI cL cZ cnt onc fp sp mo on lf sf u.1 u.2 rl) t) (va_A (tn_ws h a1 a2 a3 a4 a5 a6 a7 cI cL cZ cnt onc fp sp mo on lf sf rp rs rl) sz)) 0 0 (va_A (tn_ws h a1 a2 a3 a4 a5 a6 a7 cI cL cZ cnt onc fp sp mo on lf sf rp rs rl) sz) := by
  refine Met.ofW (cc := cX0_appendBestFrom) (maxL := 4) (ret := none) (by decide) rfl ?_
  intro p e s m args below meth c s₁ B hml hv
  obtain ⟨rfl, hsz, hP, hK, hD0⟩ := hv
  have hx := B.exec
  have hb := B.bytes
  have hr := B.returns
  have hts := atoms_spec (ws := wsX0_appendBestFrom) B.pre
  have hown : s.vm.findClass RX0 = some m.cls := findClass_of_methodNamed B.named
  have hlocks := B.notSynchronized
  subst hsz
  have hD := hD0.self (sz := s.heap.size)
  generalize hAe : va_A (tn_ws h a1 a2 a3 a4 a5 a6 a7 cI cL cZ cnt onc fp sp mo on lf sf rp rs rl) s.heap.size = A at hD ⊢
  have hA : ∀ q : Nat, s.heap.size ≤ q → A q := fun q h => by rw [← hAe]; exact Or.inr h
  have hS : va_S A s.heap s.heap [] := va_S.rf
  have hl := lv_entry ([.ref h, .int (nI s0)]) (n := 4) (Nat.le_of_ble_eq_true rfl)
  rw [lg_entry_eq]
  generalize (lg_sl ([.ref h, .int (nI s0)]) ++ List.replicate (4 - (lg_sl ([.ref h, .int (nI s0)])).length) Slot.unset).toArray = ls at hl ⊢
  have hl : lv_has ls 4 [(0, .ref h), (1, .int (nI s0))] := hl
  have kf27 := hts (.fieldLink RX0 27 "TimeNet" "stepsFrom" "[I") (by decide +kernel)
  have hin : ∀ w ∈ u_ws RX0 TX0 11, w ∈ wsX0_appendBestFrom := by decide +kernel
  have hc := g.1
  have loop : ∀ (n : Nat) (lft : Nat) (pq : Nat) (rpc : Nat → Nat) (rsc : Nat) (H : Heap) (locs : List Loc) (ls : Array Slot), lft < n → pq ≤ 20 → rsc + lft = rs + 1 + n0 → tn_put (fun q => tn_nxt fp sp mo on (lf, sf) q cnt) (rs + 1) n0 s0 (va_up rp rs s0) = tn_put (fun q => tn_nxt fp sp mo on (lf, sf) q cnt) rsc lft pq rpc → va_P (dC, dI) vwCl (tn_ws h a1 a2 a3 a4 a5 a6 a7 cI cL cZ cnt onc fp sp mo on lf sf rpc rsc rl) H → va_D A (tn_ws h a1 a2 a3 a4 a5 a6 a7 cI cL cZ cnt onc fp sp mo on lf sf rpc rsc rl) → va_S A s.heap H locs → lv_has ls 4 [(0, .ref h), (1, .int (nI s0)), (2, .int (nI pq)), (3, .int (nI lft))] → W p l e (headSpec wsX0_appendBestFrom ({ frames := 2, cells := 0, slots := 0, locals := 46 })).room s m ([.ref h, .int (nI s0)] : List Value).toArray below meth c H locs 0 0 (MQ below (va_Qv (S := (Nat → Nat) × Nat) (fun u => u = (tn_put (fun q => tn_nxt fp sp mo on (lf, sf) q cnt) (rs + 1) n0 s0 (va_up rp rs s0), rs + 1 + n0)) (fun u t => tn_at dC dI (tn_tys cI cL cZ) A (tn_ws h a1 a2 a3 a4 a5 a6 a7 cI cL cZ cnt onc fp sp mo on lf sf u.1 u.2 rl) t) A) (([.ref h, .int (nI s0)] : List Value).toArray) s 0 0 A) (F0 m 14 ls []) := by
    intro n
    induction n with
    | zero => intro lft pq rpc rsc H locs ls hln hpq hrr hpu _ _ _ _; exact absurd hln (by omega)
    | succ n ih =>
      intro lft pq rpc rsc H locs ls hln hpq hrr hpu hP hD hS hl
      refine lv_iload_n hx hb dX0_appendBestFrom_14 rfl (lv_at hl 3 rfl) ?_
      refine lv_if_le (tgt := 35) hx hb dX0_appendBestFrom_15 (by decide) (fun c_15 => ?_) (fun c_15 => ?_)
      · skip
        have hl0 := tn_pos c_15 (by omega)
        subst hl0
        exact W.vret hx hb hr (fun t ht hW => ⟨⟨(rpc, rsc), rfl, (by rw [hpu, show rsc = rs + 1 + n0 by omega]; rfl), by rw [ht]; exact hP, va_K.moved hW.alike hK, hD⟩, hS.F ht⟩) hS.2.2 dX0_appendBestFrom_35
      · skip
        obtain ⟨lf', rfl⟩ : ∃ x, lft = x + 1 := by
          rcases Nat.eq_zero_or_pos lft with q | q
          · subst q; exact absurd (show nI 0 ≤ 0 by decide) c_15
          · exact ⟨lft - 1, by omega⟩
        refine lv_aload_n hx hb dX0_appendBestFrom_18 rfl (lv_at hl 0 rfl) ?_
        refine lv_iload_n hx hb dX0_appendBestFrom_19 rfl (lv_at hl 2 rfl) ?_
        have hF := tn_freeA hD hS hA
        refine va_calli (va_runV (As := [.int (nI pq)]) (rest := []) ⟨hx, hb, hml, hown, hts⟩ (cX0_nextOfBest_ok l dC dI h a1 a2 a3 a4 a5 a6 a7 cI cL cZ cnt onc fp sp mo on lf sf rpc rsc rl H.size g pq hpq) (cwV 1 hts gX0_appendBestFrom_X0_nextOfBest rfl rfl rfl (by decide +kernel) ⟨Nat.le_of_ble_eq_true rfl, Nat.le_of_ble_eq_true rfl⟩) (tn_preV hK hP hD (ci := 0) rfl 0 rfl) rfl rfl hl.1 rfl (lv_room (Nat.le_of_ble_eq_true rfl)) dX0_appendBestFrom_20 ⟨Nat.le_of_ble_eq_true rfl, Nat.le_of_ble_eq_true rfl⟩) hS (fun q _ h => hF q h) hF (fun r_20 u_20 t H1 locs ht hvm hw_20 hB hz1 hk1 hS => ?_)
        obtain ⟨hP1, -, hD1⟩ := hB
        rw [ht] at hP1
        have hD := hD1.weaken (fun _ q _ hq => hF q.1 hq)
        clear hP hk1 hF hz1 ht hvm hD1
        generalize H1 = H at hP1 hS ⊢
        have hP := hP1
        clear hP1
        have hr_20 : r_20 = nI (tn_nxt fp sp mo on (lf, sf) pq cnt) := hw_20
        subst hr_20
        have hnl := tn_nxt_le fp sp mo on (lf, sf) pq cnt
        refine lv_istore_n (lv' := [(2, .int (nI (tn_nxt fp sp mo on (lf, sf) pq cnt))), (0, .ref h), (1, .int (nI s0)), (3, .int (nI (lf' + 1)))]) hx hb dX0_appendBestFrom_23 rfl hl (by decide) rfl (fun ls hl => ?_)
        refine lv_aload_n hx hb dX0_appendBestFrom_24 rfl (lv_at hl 1 rfl) ?_
        refine lv_iload_n hx hb dX0_appendBestFrom_25 rfl (lv_at hl 0 rfl) ?_
        have hF := tn_freeA hD hS hA
        refine va_callv (va_runV (As := [.int (nI (tn_nxt fp sp mo on (lf, sf) pq cnt))]) (rest := []) ⟨hx, hb, hml, hown, hts⟩ (cX0_append_ok l dC dI h a1 a2 a3 a4 a5 a6 a7 cI cL cZ cnt onc fp sp mo on lf sf rpc rsc rl H.size (by omega) (tn_nxt fp sp mo on (lf, sf) pq cnt)) (cwV 1 hts gX0_appendBestFrom_X0_append rfl rfl rfl (by decide +kernel) ⟨Nat.le_of_ble_eq_true rfl, Nat.le_of_ble_eq_true rfl⟩) (tn_preV hK hP hD (ci := 0) rfl 0 rfl) rfl rfl hl.1 rfl (lv_room (Nat.le_of_ble_eq_true rfl)) dX0_appendBestFrom_26 ⟨Nat.le_of_ble_eq_true rfl, Nat.le_of_ble_eq_true rfl⟩) hS (fun q _ h => hF q h) hF (fun u_26 t H1 locs ht hvm hw_26 hB hz1 hk1 hS => ?_)
        obtain ⟨hP1, -, hD1⟩ := hB
        rw [ht] at hP1
        have hD := hD1.weaken (fun _ q _ hq => hF q.1 hq)
        clear hP hk1 hF hz1 ht hvm hD1
        generalize H1 = H at hP1 hS ⊢
        have hP := hP1
        clear hP1
        refine lv_iinc (v := nI lf') (lv' := [(3, .int (nI lf')), (2, .int (nI (tn_nxt fp sp mo on (lf, sf) pq cnt))), (0, .ref h), (1, .int (nI s0))]) hx hb dX0_appendBestFrom_29 hl (k := 3) rfl (tn_dec lf') (by decide) rfl (fun ls hl => ?_)
        refine lv_goto (tgt := 14) hx hb dX0_appendBestFrom_32 (by decide) ?_
        exact ih lf' (tn_nxt fp sp mo on (lf, sf) pq cnt) (va_up rpc rsc (tn_nxt fp sp mo on (lf, sf) pq cnt)) (rsc + 1) _ _ _ (by omega) hnl (by omega) (by rw [hpu]; rfl) hP hD hS (lv_sub hl [2, 3, 1, 0] rfl)
  refine lv_iload_n hx hb dX0_appendBestFrom_0 rfl (lv_at hl 1 rfl) ?_
  refine lv_istore_n (lv' := [(2, .int (nI s0)), (0, .ref h), (1, .int (nI s0))]) hx hb dX0_appendBestFrom_1 rfl hl (by decide) rfl (fun ls hl => ?_)
  refine lv_aload_n hx hb dX0_appendBestFrom_2 rfl (lv_at hl 1 rfl) ?_
  refine lv_iload_n hx hb dX0_appendBestFrom_3 rfl (lv_at hl 0 rfl) ?_
  have hF := tn_freeA hD hS hA
  refine va_callv (va_runV (As := [.int (nI s0)]) (rest := []) ⟨hx, hb, hml, hown, hts⟩ (cX0_append_ok l dC dI h a1 a2 a3 a4 a5 a6 a7 cI cL cZ cnt onc fp sp mo on lf sf rp rs rl s.heap.size (by omega) s0) (cwV 1 hts gX0_appendBestFrom_X0_append rfl rfl rfl (by decide +kernel) ⟨Nat.le_of_ble_eq_true rfl, Nat.le_of_ble_eq_true rfl⟩) (tn_preV hK hP hD (ci := 0) rfl 0 rfl) rfl rfl hl.1 rfl (lv_room (Nat.le_of_ble_eq_true rfl)) dX0_appendBestFrom_4 ⟨Nat.le_of_ble_eq_true rfl, Nat.le_of_ble_eq_true rfl⟩) hS (fun q _ h => hF q h) hF (fun u_4 t H1 locs ht hvm hw_4 hB hz1 hk1 hS => ?_)
  obtain ⟨hP1, -, hD1⟩ := hB
  rw [ht] at hP1
  have hD := hD1.weaken (fun _ q _ hq => hF q.1 hq)
  clear hP hk1 hF hz1 ht hvm hD1
  generalize H1 = H at hP1 hS ⊢
  have hP := hP1
  clear hP1
  refine lv_aload_n hx hb dX0_appendBestFrom_7 rfl (lv_at hl 1 rfl) ?_
  refine va_get (D := (dC, dI)) (ci := 0) (v := .ref a6) (C := RX0) (T := TX0) (N := 11) hx hb hts hin hown hK hP 0 rfl rfl 7 (by decide) kf27 (fun _ h9 => h9) rfl dX0_appendBestFrom_8 ?_
  refine lv_iload_n hx hb dX0_appendBestFrom_11 rfl (lv_at hl 2 rfl) ?_
  refine tn_iald (i := s0) (v := nI n0) hx hb hK hP 6 0 rfl rfl (by omega) (by decide) hsn dX0_appendBestFrom_12 ?_
  refine lv_istore_n (lv' := [(3, .int (nI n0)), (2, .int (nI s0)), (0, .ref h), (1, .int (nI s0))]) hx hb dX0_appendBestFrom_13 rfl hl (by decide) rfl (fun ls hl => ?_)
  exact loop (n0 + 1) n0 s0 (va_up rp rs s0) (rs + 1) _ _ _ (by omega) (by omega) rfl rfl hP hD hS (lv_sub hl [2, 3, 1, 0] rfl)
end
section
set_option maxHeartbeats 4000000 in
set_option maxRecDepth 100000 in
/-- isConstraint(x, y, cv) -/
theorem cX0_isConstraint_ok (l : Launch) (dC : Nat → ClassId) (dI : Nat → Nat → Nat) (h a1 a2 a3 a4 a5 a6 a7 : Nat) (cI cL cZ : ClassId) (cnt onc : Nat) (fp sp : Nat → Nat) (mo : Nat → Int64) (on : Nat → Bool) (lf : Nat → Int64) (sf : Nat → Int32) (rp : Nat → Nat) (rs : Nat) (rl : Int64) (sz : Nat) (x y : Int32) (cv : Int64) : Met l yX0_isConstraint wsX0_isConstraint ({ frames := 1, cells := 0, slots := 0, locals := 20 }) (va_Pc [.int x, .int y, .long cv] (tn_Pre dC dI (tn_tys cI cL cZ) (tn_ws h a1 a2 a3 a4 a5 a6 a7 cI cL cZ cnt onc fp sp mo on lf sf rp rs rl) sz)) (va_Qi (S := Unit) (fun r _ => (r = nI 1 ∧ ∃ a b, a < 20 ∧ b < 20 ∧ a ≠ b ∧ x = nI a ∧ y = nI b ∧ -1000000000000 ≤ cv.toInt ∧ cv.toInt ≤ 1000000000000) ∨ (r = nI 0 ∧ ¬ ∃ a b, a < 20 ∧ b < 20 ∧ a ≠ b ∧ x = nI a ∧ y = nI b ∧ -1000000000000 ≤ cv.toInt ∧ cv.toInt ≤ 1000000000000)) (fun u t => tn_at dC dI (tn_tys cI cL cZ) (va_A (tn_ws h a1 a2 a3 a4 a5 a6 a7 cI cL cZ cnt onc fp sp mo on lf sf rp rs rl) sz) (tn_ws h a1 a2 a3 a4 a5 a6 a7 cI cL cZ cnt onc fp sp mo on lf sf rp rs rl) t) (va_A (tn_ws h a1 a2 a3 a4 a5 a6 a7 cI cL cZ cnt onc fp sp mo on lf sf rp rs rl) sz)) 0 0 (va_A (tn_ws h a1 a2 a3 a4 a5 a6 a7 cI cL cZ cnt onc fp sp mo on lf sf rp rs rl) sz) := by
  refine Met.ofW (cc := cX0_isConstraint) (maxL := 4) (ret := (some .boolean)) (by decide) rfl ?_
  intro p e s m args below meth c s₁ B hml hv
  obtain ⟨rfl, hsz, hP, hK, hD0⟩ := hv
  have hx := B.exec
  have hb := B.bytes
  have hr := B.returns
  have hts := atoms_spec (ws := wsX0_isConstraint) B.pre
  have hown : s.vm.findClass RX0 = some m.cls := findClass_of_methodNamed B.named
  have hlocks := B.notSynchronized
  subst hsz
  have hD := hD0.self (sz := s.heap.size)
  generalize hAe : va_A (tn_ws h a1 a2 a3 a4 a5 a6 a7 cI cL cZ cnt onc fp sp mo on lf sf rp rs rl) s.heap.size = A at hD ⊢
  have hA : ∀ q : Nat, s.heap.size ≤ q → A q := fun q h => by rw [← hAe]; exact Or.inr h
  have hS : va_S A s.heap s.heap [] := va_S.rf
  have hl := lv_entry ([.int x, .int y, .long cv]) (n := 4) (Nat.le_of_ble_eq_true rfl)
  rw [lg_entry_eq]
  generalize (lg_sl ([.int x, .int y, .long cv]) ++ List.replicate (4 - (lg_sl ([.int x, .int y, .long cv])).length) Slot.unset).toArray = ls at hl ⊢
  have hl : lv_has ls 4 [(0, .int x), (1, .int y), (2, .long cv)] := hl
  have kc81 := hts (.constantLong RX0 81 (-1000000000000)) (by decide +kernel)
  have kc83 := hts (.constantLong RX0 83 (1000000000000)) (by decide +kernel)
  refine lv_iload_n hx hb dX0_isConstraint_0 rfl (lv_at hl 0 rfl) ?_
  have hF := tn_freeA hD hS hA
  refine va_calli (va_runS (As := [.int x]) (rest := []) ⟨hx, hb, hml, hown, hts⟩ (cX0_isPoint_ok l dC dI h a1 a2 a3 a4 a5 a6 a7 cI cL cZ cnt onc fp sp mo on lf sf rp rs rl s.heap.size x) (va_cwS 1 hts gX0_isConstraint_X0_isPoint rfl rfl rfl (by decide +kernel) ⟨Nat.le_of_ble_eq_true rfl, Nat.le_of_ble_eq_true rfl⟩) (tn_preS hK hP hD) rfl rfl hl.1 rfl (lv_room (Nat.le_of_ble_eq_true rfl)) dX0_isConstraint_1 ⟨Nat.le_of_ble_eq_true rfl, Nat.le_of_ble_eq_true rfl⟩) hS (fun q _ h => hF q h) hF (fun r_1 u_1 t H1 locs ht hvm hw_1 hB hz1 hk1 hS => ?_)
  obtain ⟨hP1, -, hD1⟩ := hB
  rw [ht] at hP1
  have hD := hD1.weaken (fun _ q _ hq => hF q.1 hq)
  clear hP hk1 hF hz1 ht hvm hD1
  generalize H1 = H at hP1 hS ⊢
  have hP := hP1
  clear hP1
  refine lv_if_eq (tgt := 39) hx hb dX0_isConstraint_4 (by decide) (fun c_4 => ?_) (fun c_4 => ?_)
  · skip
    have hn_1 : ∀ j, j < 20 → x ≠ nI j := by
      rcases hw_1 with ⟨q, _⟩ | ⟨_, q⟩
      · exact absurd (q ▸ c_4 : nI 1 = 0) (by decide)
      · exact q
    refine lv_iconst (v := nI 0) hx hb dX0_isConstraint_39 (by decide) ?_
    exact W.zret (v := nI 0) hx hb hr rfl (fun t ht hW => ⟨⟨nI 0, (), rfl, Or.inr ⟨rfl, fun ⟨a, b, h1, h2, h3, h4, h5, h6⟩ => hn_1 a h1 h4⟩, by rw [ht]; exact hP, va_K.moved hW.alike hK, hD⟩, hS.F ht⟩) hS.2.2 dX0_isConstraint_40
  · skip
    obtain ⟨ja, hja, eja⟩ : ∃ j, j < 20 ∧ x = nI j := by
      rcases hw_1 with ⟨_, q⟩ | ⟨q, _⟩
      · exact q
      · exact absurd (q : r_1 = 0) c_4
    subst eja
    refine lv_iload_n hx hb dX0_isConstraint_7 rfl (lv_at hl 1 rfl) ?_
    have hF := tn_freeA hD hS hA
    refine va_calli (va_runS (As := [.int y]) (rest := []) ⟨hx, hb, hml, hown, hts⟩ (cX0_isPoint_ok l dC dI h a1 a2 a3 a4 a5 a6 a7 cI cL cZ cnt onc fp sp mo on lf sf rp rs rl H.size y) (va_cwS 1 hts gX0_isConstraint_X0_isPoint rfl rfl rfl (by decide +kernel) ⟨Nat.le_of_ble_eq_true rfl, Nat.le_of_ble_eq_true rfl⟩) (tn_preS hK hP hD) rfl rfl hl.1 rfl (lv_room (Nat.le_of_ble_eq_true rfl)) dX0_isConstraint_8 ⟨Nat.le_of_ble_eq_true rfl, Nat.le_of_ble_eq_true rfl⟩) hS (fun q _ h => hF q h) hF (fun r_8 u_8 t H1 locs ht hvm hw_8 hB hz1 hk1 hS => ?_)
    obtain ⟨hP1, -, hD1⟩ := hB
    rw [ht] at hP1
    have hD := hD1.weaken (fun _ q _ hq => hF q.1 hq)
    clear hP hk1 hF hz1 ht hvm hD1
    generalize H1 = H at hP1 hS ⊢
    have hP := hP1
    clear hP1
    refine lv_if_eq (tgt := 39) hx hb dX0_isConstraint_11 (by decide) (fun c_11 => ?_) (fun c_11 => ?_)
    · skip
      have hn_8 : ∀ j, j < 20 → y ≠ nI j := by
        rcases hw_8 with ⟨q, _⟩ | ⟨_, q⟩
        · exact absurd (q ▸ c_11 : nI 1 = 0) (by decide)
        · exact q
      refine lv_iconst (v := nI 0) hx hb dX0_isConstraint_39 (by decide) ?_
      exact W.zret (v := nI 0) hx hb hr rfl (fun t ht hW => ⟨⟨nI 0, (), rfl, Or.inr ⟨rfl, fun ⟨a, b, h1, h2, h3, h4, h5, h6⟩ => hn_8 b h2 h5⟩, by rw [ht]; exact hP, va_K.moved hW.alike hK, hD⟩, hS.F ht⟩) hS.2.2 dX0_isConstraint_40
    · skip
      obtain ⟨jb, hjb, ejb⟩ : ∃ j, j < 20 ∧ y = nI j := by
        rcases hw_8 with ⟨_, q⟩ | ⟨q, _⟩
        · exact q
        · exact absurd (q : r_8 = 0) c_11
      subst ejb
      refine lv_iload_n hx hb dX0_isConstraint_14 rfl (lv_at hl 0 rfl) ?_
      refine lv_iload_n hx hb dX0_isConstraint_15 rfl (lv_at hl 1 rfl) ?_
      refine lv_icmp_eq (tgt := 39) hx hb dX0_isConstraint_16 (by decide) (fun c_16 => ?_) (fun c_16 => ?_)
      · skip
        refine lv_iconst (v := nI 0) hx hb dX0_isConstraint_39 (by decide) ?_
        exact W.zret (v := nI 0) hx hb hr rfl (fun t ht hW => ⟨⟨nI 0, (), rfl, Or.inr ⟨rfl, fun ⟨a, b, h1, h2, h3, h4, h5, h6⟩ => h3 ((nI_eq (by omega) (by omega)).mp (h4.symm.trans (c_16.trans h5)))⟩, by rw [ht]; exact hP, va_K.moved hW.alike hK, hD⟩, hS.F ht⟩) hS.2.2 dX0_isConstraint_40
      · skip
        have hne : ja ≠ jb := fun q => c_16 (by rw [q])
        refine lv_lload_n hx hb dX0_isConstraint_19 rfl (lv_at hl 2 rfl) ?_
        refine lv_ldc2 (v := (-1000000000000)) hx hb hown kc81 dX0_isConstraint_20 ?_
        refine tn_lc_lt (x := cv) (y := (-1000000000000)) (tgt := 39) hx hb dX0_isConstraint_23 dX0_isConstraint_24 (by decide) (fun c_23 => ?_) (fun c_23 => ?_)
        · skip
          refine lv_iconst (v := nI 0) hx hb dX0_isConstraint_39 (by decide) ?_
          exact W.zret (v := nI 0) hx hb hr rfl (fun t ht hW => ⟨⟨nI 0, (), rfl, Or.inr ⟨rfl, fun ⟨a, b, h1, h2, h3, h4, h5, h6, h7⟩ => tn_lim_lo c_23 h6⟩, by rw [ht]; exact hP, va_K.moved hW.alike hK, hD⟩, hS.F ht⟩) hS.2.2 dX0_isConstraint_40
        · skip
          refine lv_lload_n hx hb dX0_isConstraint_27 rfl (lv_at hl 2 rfl) ?_
          refine lv_ldc2 (v := 1000000000000) hx hb hown kc83 dX0_isConstraint_28 ?_
          refine tn_lc_gt (x := cv) (y := 1000000000000) (tgt := 39) hx hb dX0_isConstraint_31 dX0_isConstraint_32 (by decide) (fun c_31 => ?_) (fun c_31 => ?_)
          · skip
            refine lv_iconst (v := nI 0) hx hb dX0_isConstraint_39 (by decide) ?_
            exact W.zret (v := nI 0) hx hb hr rfl (fun t ht hW => ⟨⟨nI 0, (), rfl, Or.inr ⟨rfl, fun ⟨a, b, h1, h2, h3, h4, h5, h6, h7⟩ => tn_lim_hi c_31 h7⟩, by rw [ht]; exact hP, va_K.moved hW.alike hK, hD⟩, hS.F ht⟩) hS.2.2 dX0_isConstraint_40
          · skip
            refine lv_iconst (v := nI 1) hx hb dX0_isConstraint_35 (by decide) ?_
            refine lv_goto (tgt := 40) hx hb dX0_isConstraint_36 (by decide) ?_
            exact W.zret (v := nI 1) hx hb hr rfl (fun t ht hW => ⟨⟨nI 1, (), rfl, Or.inl ⟨rfl, ja, jb, hja, hjb, hne, rfl, rfl, (tn_lim c_23 c_31).1, (tn_lim c_23 c_31).2⟩, by rw [ht]; exact hP, va_K.moved hW.alike hK, hD⟩, hS.F ht⟩) hS.2.2 dX0_isConstraint_40
set_option maxHeartbeats 4000000 in
set_option maxRecDepth 100000 in
/-- refuse(i, j, cv) -/
theorem cX0_refuse_ok (l : Launch) (dC : Nat → ClassId) (dI : Nat → Nat → Nat) (h a1 a2 a3 a4 a5 a6 a7 : Nat) (cI cL cZ : ClassId) (cnt onc : Nat) (fp sp : Nat → Nat) (mo : Nat → Int64) (on : Nat → Bool) (lf : Nat → Int64) (sf : Nat → Int32) (rp : Nat → Nat) (rs : Nat) (rl : Int64) (sz : Nat) (g : tn_good cnt fp sp mo) (ok : tn_ok (tn_E cnt fp sp mo on)) (i : Nat) (hi : i < 20) (j : Nat) (hj : j < 20) (cv : Int64) (hc1 : -1000000000000 ≤ cv.toInt) (hc2 : cv.toInt ≤ 1000000000000) : Met l yX0_refuse wsX0_refuse ({ frames := 4, cells := 0, slots := 0, locals := 94 }) (va_Pc [.ref h, .int (nI i), .int (nI j), .long cv] (tn_Pre dC dI (tn_tys cI cL cZ) (tn_ws h a1 a2 a3 a4 a5 a6 a7 cI cL cZ cnt onc fp sp mo on lf sf rp rs rl) sz)) (va_Qi (S := tn_D × (Nat → Nat) × Nat × Int64) (fun r u => sp_ref (tn_E cnt fp sp mo on) i j cv.toInt r rp rs rl u.2.1 u.2.2.1 u.2.2.2) (fun u t => tn_at dC dI (tn_tys cI cL cZ) (va_A (tn_ws h a1 a2 a3 a4 a5 a6 a7 cI cL cZ cnt onc fp sp mo on lf sf rp rs rl) sz) (tn_ws h a1 a2 a3 a4 a5 a6 a7 cI cL cZ cnt onc fp sp mo on u.1.1 u.1.2 u.2.1 u.2.2.1 u.2.2.2) t) (va_A (tn_ws h a1 a2 a3 a4 a5 a6 a7 cI cL cZ cnt onc fp sp mo on lf sf rp rs rl) sz)) 0 0 (va_A (tn_ws h a1 a2 a3 a4 a5 a6 a7 cI cL cZ cnt onc fp sp mo on lf sf rp rs rl) sz) := by
  refine Met.ofW (cc := cX0_refuse) (maxL := 5) (ret := (some .boolean)) (by decide) rfl ?_
  intro p e s m args below meth c s₁ B hml hv
  obtain ⟨rfl, hsz, hP, hK, hD0⟩ := hv
  have hx := B.exec
  have hb := B.bytes
  have hr := B.returns
  have hts := atoms_spec (ws := wsX0_refuse) B.pre
  have hown : s.vm.findClass RX0 = some m.cls := findClass_of_methodNamed B.named
  have hlocks := B.notSynchronized
  subst hsz
  have hD := hD0.self (sz := s.heap.size)
  generalize hAe : va_A (tn_ws h a1 a2 a3 a4 a5 a6 a7 cI cL cZ cnt onc fp sp mo on lf sf rp rs rl) s.heap.size = A at hD ⊢
  have hA : ∀ q : Nat, s.heap.size ≤ q → A q := fun q h => by rw [← hAe]; exact Or.inr h
  have hS : va_S A s.heap s.heap [] := va_S.rf
  have hl := lv_entry ([.ref h, .int (nI i), .int (nI j), .long cv]) (n := 5) (Nat.le_of_ble_eq_true rfl)
  rw [lg_entry_eq]
  generalize (lg_sl ([.ref h, .int (nI i), .int (nI j), .long cv]) ++ List.replicate (5 - (lg_sl ([.ref h, .int (nI i), .int (nI j), .long cv])).length) Slot.unset).toArray = ls at hl ⊢
  have hl : lv_has ls 5 [(0, .ref h), (1, .int (nI i)), (2, .int (nI j)), (3, .long cv)] := hl
  have kf24 := hts (.fieldLink RX0 24 "TimeNet" "lengthFrom" "[J") (by decide +kernel)
  have kf65 := hts (.fieldLink RX0 65 "TimeNet" "rowSize" "I") (by decide +kernel)
  have kf71 := hts (.fieldLink RX0 71 "TimeNet" "rowLength" "J") (by decide +kernel)
  have hin : ∀ w ∈ u_ws RX0 TX0 11, w ∈ wsX0_refuse := by decide +kernel
  have hc := g.1
  refine lv_aload_n hx hb dX0_refuse_0 rfl (lv_at hl 0 rfl) ?_
  refine lv_iload_n hx hb dX0_refuse_1 rfl (lv_at hl 2 rfl) ?_
  refine lv_iload_n hx hb dX0_refuse_2 rfl (lv_at hl 1 rfl) ?_
  have hF := tn_freeA hD hS hA
  refine va_calli (va_runV (As := [.int (nI j), .int (nI i)]) (rest := []) ⟨hx, hb, hml, hown, hts⟩ (cX0_findPath_ok l dC dI h a1 a2 a3 a4 a5 a6 a7 cI cL cZ cnt onc fp sp mo on lf sf rp rs rl s.heap.size g (nI j) (nI i)) (cwV 2 hts gX0_refuse_X0_findPath rfl rfl rfl (by decide +kernel) ⟨Nat.le_of_ble_eq_true rfl, Nat.le_of_ble_eq_true rfl⟩) (tn_preV hK hP hD (ci := 0) rfl 0 rfl) rfl rfl hl.1 rfl (lv_room (Nat.le_of_ble_eq_true rfl)) dX0_refuse_3 ⟨Nat.le_of_ble_eq_true rfl, Nat.le_of_ble_eq_true rfl⟩) hS (fun q _ h => hF q h) hF (fun r_3 u_3 t H1 locs ht hvm hw_3 hB hz1 hk1 hS => ?_)
  obtain ⟨hP1, -, hD1⟩ := hB
  rw [ht] at hP1
  have hD := hD1.weaken (fun _ q _ hq => hF q.1 hq)
  clear hP hk1 hF hz1 ht hvm hD1
  generalize H1 = H at hP1 hS ⊢
  have hP := hP1
  clear hP1
  have hm_3 := tn_fpN g ok hj hi hw_3
  refine lv_if_eq (tgt := 22) hx hb dX0_refuse_6 (by decide) (fun c_6 => ?_) (fun c_6 => ?_)
  · skip
    have hz : u_3.1 j = tn_MX := by
      rcases hm_3.2 with ⟨_, q⟩ | ⟨q, _⟩
      · exact q
      · exact absurd (q ▸ c_6 : nI 1 = 0) (by decide)
    refine lv_iconst (v := nI 0) hx hb dX0_refuse_22 (by decide) ?_
    exact W.zret (v := nI 0) hx hb hr rfl (fun t ht hW => ⟨⟨nI 0, ((u_3.1, u_3.2), rp, rs, rl), rfl, Or.inr ⟨tn_ref_no g hj hc1 hc2 hm_3.1 (Or.inl hz), rfl, rfl, rfl, rfl⟩, by rw [ht]; exact hP, va_K.moved hW.alike hK, hD⟩, hS.F ht⟩) hS.2.2 dX0_refuse_23
  · skip
    have hz : u_3.1 j ≠ tn_MX := by
      rcases hm_3.2 with ⟨q, _⟩ | ⟨_, q⟩
      · exact absurd (q : r_3 = 0) c_6
      · exact q
    refine lv_aload_n hx hb dX0_refuse_9 rfl (lv_at hl 0 rfl) ?_
    refine va_get (D := (dC, dI)) (ci := 0) (v := .ref a5) (C := RX0) (T := TX0) (N := 11) hx hb hts hin hown hK hP 0 rfl rfl 6 (by decide) kf24 (fun _ h9 => h9) rfl dX0_refuse_10 ?_
    refine lv_iload_n hx hb dX0_refuse_13 rfl (lv_at hl 2 rfl) ?_
    refine tn_lald (i := j) (v := u_3.1 j) hx hb hK hP 5 1 rfl rfl (by omega) (by decide) rfl dX0_refuse_14 ?_
    refine lv_lload_n hx hb dX0_refuse_15 rfl (lv_at hl 3 rfl) ?_
    refine lv_ladd hx hb dX0_refuse_16 ?_
    refine lv_lconst (v := 0) hx hb dX0_refuse_17 (by decide) ?_
    refine tn_lc_lt (x := ((u_3.1 j) + cv)) (y := 0) (tgt := 24) hx hb dX0_refuse_18 dX0_refuse_19 (by decide) (fun c_18 => ?_) (fun c_18 => ?_)
    · skip
      obtain ⟨n0, hn0, hsn, hbe⟩ := tn_mok_f hm_3.1 hj hz
      refine lv_aload_n hx hb dX0_refuse_24 rfl (lv_at hl 0 rfl) ?_
      refine lv_iconst (v := nI 0) hx hb dX0_refuse_25 (by decide) ?_
      refine va_put (D := (dC, dI)) (ci := 0) (v := .int (nI 0)) (ty := .int) (C := RX0) (T := TX0) (N := 11) hx hb hts hin tyX0 tyX0_ok nmX0 hown hK hP hD hS 0 rfl rfl 9 (by decide) kf65 (fun _ h9 => h9) rfl (by decide +kernel) rfl rfl (Nat.le_of_ble_eq_true rfl) dX0_refuse_26 (fun H locs hP hD hS => ?_)
      have hP : va_P (dC, dI) vwCl (tn_ws h a1 a2 a3 a4 a5 a6 a7 cI cL cZ cnt onc fp sp mo on u_3.1 u_3.2 rp 0 rl) H := hP
      have hD : va_D A (tn_ws h a1 a2 a3 a4 a5 a6 a7 cI cL cZ cnt onc fp sp mo on u_3.1 u_3.2 rp 0 rl) := hD
      refine lv_aload_n hx hb dX0_refuse_29 rfl (lv_at hl 0 rfl) ?_
      refine lv_iload_n hx hb dX0_refuse_30 rfl (lv_at hl 1 rfl) ?_
      have hF := tn_freeA hD hS hA
      refine va_callv (va_runV (As := [.int (nI i)]) (rest := []) ⟨hx, hb, hml, hown, hts⟩ (cX0_append_ok l dC dI h a1 a2 a3 a4 a5 a6 a7 cI cL cZ cnt onc fp sp mo on u_3.1 u_3.2 rp 0 rl H.size (by omega) i) (cwV 1 hts gX0_refuse_X0_append rfl rfl rfl (by decide +kernel) ⟨Nat.le_of_ble_eq_true rfl, Nat.le_of_ble_eq_true rfl⟩) (tn_preV hK hP hD (ci := 0) rfl 0 rfl) rfl rfl hl.1 rfl (lv_room (Nat.le_of_ble_eq_true rfl)) dX0_refuse_31 ⟨Nat.le_of_ble_eq_true rfl, Nat.le_of_ble_eq_true rfl⟩) hS (fun q _ h => hF q h) hF (fun u_31 t H1 locs ht hvm hw_31 hB hz1 hk1 hS => ?_)
      obtain ⟨hP1, -, hD1⟩ := hB
      rw [ht] at hP1
      have hD := hD1.weaken (fun _ q _ hq => hF q.1 hq)
      clear hP hk1 hF hz1 ht hvm hD1
      generalize H1 = H at hP1 hS ⊢
      have hP := hP1
      clear hP1
      refine lv_aload_n hx hb dX0_refuse_34 rfl (lv_at hl 0 rfl) ?_
      refine lv_iload_n hx hb dX0_refuse_35 rfl (lv_at hl 2 rfl) ?_
      have hF := tn_freeA hD hS hA
      refine va_callv (va_runV (As := [.int (nI j)]) (rest := []) ⟨hx, hb, hml, hown, hts⟩ (cX0_appendBestFrom_ok l dC dI h a1 a2 a3 a4 a5 a6 a7 cI cL cZ cnt onc fp sp mo on u_3.1 u_3.2 (va_up rp 0 i) (0 + 1) rl H.size g j hj n0 hsn (by omega)) (cwV 1 hts gX0_refuse_X0_appendBestFrom rfl rfl rfl (by decide +kernel) ⟨Nat.le_of_ble_eq_true rfl, Nat.le_of_ble_eq_true rfl⟩) (tn_preV hK hP hD (ci := 0) rfl 0 rfl) rfl rfl hl.1 rfl (lv_room (Nat.le_of_ble_eq_true rfl)) dX0_refuse_36 ⟨Nat.le_of_ble_eq_true rfl, Nat.le_of_ble_eq_true rfl⟩) hS (fun q _ h => hF q h) hF (fun u_36 t H1 locs ht hvm hw_36 hB hz1 hk1 hS => ?_)
      obtain ⟨hP1, -, hD1⟩ := hB
      rw [ht] at hP1
      have hD := hD1.weaken (fun _ q _ hq => hF q.1 hq)
      clear hP hk1 hF hz1 ht hvm hD1
      generalize H1 = H at hP1 hS ⊢
      have hP := hP1
      clear hP1
      refine lv_aload_n hx hb dX0_refuse_39 rfl (lv_at hl 0 rfl) ?_
      refine lv_aload_n hx hb dX0_refuse_40 rfl (lv_at hl 0 rfl) ?_
      refine va_get (D := (dC, dI)) (ci := 0) (v := .ref a5) (C := RX0) (T := TX0) (N := 11) hx hb hts hin hown hK hP 0 rfl rfl 6 (by decide) kf24 (fun _ h9 => h9) rfl dX0_refuse_41 ?_
      refine lv_iload_n hx hb dX0_refuse_44 rfl (lv_at hl 2 rfl) ?_
      refine tn_lald (i := j) (v := u_3.1 j) hx hb hK hP 5 1 rfl rfl (by omega) (by decide) rfl dX0_refuse_45 ?_
      refine lv_lload_n hx hb dX0_refuse_46 rfl (lv_at hl 3 rfl) ?_
      refine lv_ladd hx hb dX0_refuse_47 ?_
      refine va_put (D := (dC, dI)) (ci := 0) (v := .long ((u_3.1 j) + cv)) (ty := .long) (C := RX0) (T := TX0) (N := 11) hx hb hts hin tyX0 tyX0_ok nmX0 hown hK hP hD hS 0 rfl rfl 10 (by decide) kf71 (fun _ h9 => h9) rfl (by decide +kernel) rfl rfl (Nat.le_of_ble_eq_true rfl) dX0_refuse_48 (fun H locs hP hD hS => ?_)
      have hP : va_P (dC, dI) vwCl (tn_ws h a1 a2 a3 a4 a5 a6 a7 cI cL cZ cnt onc fp sp mo on u_3.1 u_3.2 u_36.1 u_36.2 ((u_3.1 j) + cv)) H := hP
      have hD : va_D A (tn_ws h a1 a2 a3 a4 a5 a6 a7 cI cL cZ cnt onc fp sp mo on u_3.1 u_3.2 u_36.1 u_36.2 ((u_3.1 j) + cv)) := hD
      refine lv_iconst (v := nI 1) hx hb dX0_refuse_51 (by decide) ?_
      exact W.zret (v := nI 1) hx hb hr rfl (fun t ht hW => ⟨⟨nI 1, ((u_3.1, u_3.2), u_36.1, u_36.2, (u_3.1 j) + cv), rfl, tn_ref_yes g hc1 hc2 hm_3.1 hn0 hbe c_18 rp rs rl hw_36, by rw [ht]; exact hP, va_K.moved hW.alike hK, hD⟩, hS.F ht⟩) hS.2.2 dX0_refuse_52
    · skip
      refine lv_iconst (v := nI 0) hx hb dX0_refuse_22 (by decide) ?_
      exact W.zret (v := nI 0) hx hb hr rfl (fun t ht hW => ⟨⟨nI 0, ((u_3.1, u_3.2), rp, rs, rl), rfl, Or.inr ⟨tn_ref_no g hj hc1 hc2 hm_3.1 (Or.inr ⟨hz, c_18⟩), rfl, rfl, rfl, rfl⟩, by rw [ht]; exact hP, va_K.moved hW.alike hK, hD⟩, hS.F ht⟩) hS.2.2 dX0_refuse_23
set_option maxHeartbeats 4000000 in
set_option maxRecDepth 100000 in
/-- add(x, y, cv) -/
theorem cX0_add_ok (l : Launch) (dC : Nat → ClassId) (dI : Nat → Nat → Nat) (h a1 a2 a3 a4 a5 a6 a7 : Nat) (cI cL cZ : ClassId) (cnt onc : Nat) (fp sp : Nat → Nat) (mo : Nat → Int64) (on : Nat → Bool) (lf : Nat → Int64) (sf : Nat → Int32) (rp : Nat → Nat) (rs : Nat) (rl : Int64) (sz : Nat) (g : tn_good cnt fp sp mo) (ok : tn_ok (tn_E cnt fp sp mo on)) (x y : Int32) (cv : Int64) : Met l yX0_add wsX0_add ({ frames := 5, cells := 0, slots := 0, locals := 118 }) (va_Pc [.ref h, .int x, .int y, .long cv] (tn_Pre dC dI (tn_tys cI cL cZ) (tn_ws h a1 a2 a3 a4 a5 a6 a7 cI cL cZ cnt onc fp sp mo on lf sf rp rs rl) sz)) (va_Qi (S := tn_D × Nat × Nat × (Nat → Nat) × (Nat → Nat) × (Nat → Int64) × (Nat → Bool) × (Nat → Nat) × Nat × Int64) (fun r u => sp_add cnt fp sp mo on x y cv r rp rs rl u.2.1 u.2.2.2.1 u.2.2.2.2.1 u.2.2.2.2.2.1 u.2.2.2.2.2.2.1 u.2.2.2.2.2.2.2.1 u.2.2.2.2.2.2.2.2.1 u.2.2.2.2.2.2.2.2.2 ∧ u.2.2.1 + cnt = onc + u.2.1) (fun u t => tn_at dC dI (tn_tys cI cL cZ) (va_A (tn_ws h a1 a2 a3 a4 a5 a6 a7 cI cL cZ cnt onc fp sp mo on lf sf rp rs rl) sz) (tn_ws h a1 a2 a3 a4 a5 a6 a7 cI cL cZ u.2.1 u.2.2.1 u.2.2.2.1 u.2.2.2.2.1 u.2.2.2.2.2.1 u.2.2.2.2.2.2.1 u.1.1 u.1.2 u.2.2.2.2.2.2.2.1 u.2.2.2.2.2.2.2.2.1 u.2.2.2.2.2.2.2.2.2) t) (va_A (tn_ws h a1 a2 a3 a4 a5 a6 a7 cI cL cZ cnt onc fp sp mo on lf sf rp rs rl) sz)) 0 0 (va_A (tn_ws h a1 a2 a3 a4 a5 a6 a7 cI cL cZ cnt onc fp sp mo on lf sf rp rs rl) sz) := by
  refine Met.ofW (cc := cX0_add) (maxL := 6) (ret := (some .int)) (by decide) rfl ?_
  intro p e s m args below meth c s₁ B hml hv
  obtain ⟨rfl, hsz, hP, hK, hD0⟩ := hv
  have hx := B.exec
  have hb := B.bytes
  have hr := B.returns
  have hts := atoms_spec (ws := wsX0_add) B.pre
  have hown : s.vm.findClass RX0 = some m.cls := findClass_of_methodNamed B.named
  have hlocks := B.notSynchronized
  subst hsz
  have hD := hD0.self (sz := s.heap.size)
  generalize hAe : va_A (tn_ws h a1 a2 a3 a4 a5 a6 a7 cI cL cZ cnt onc fp sp mo on lf sf rp rs rl) s.heap.size = A at hD ⊢
  have hA : ∀ q : Nat, s.heap.size ≤ q → A q := fun q h => by rw [← hAe]; exact Or.inr h
  have hS : va_S A s.heap s.heap [] := va_S.rf
  have hl := lv_entry ([.ref h, .int x, .int y, .long cv]) (n := 6) (Nat.le_of_ble_eq_true rfl)
  rw [lg_entry_eq]
  generalize (lg_sl ([.ref h, .int x, .int y, .long cv]) ++ List.replicate (6 - (lg_sl ([.ref h, .int x, .int y, .long cv])).length) Slot.unset).toArray = ls at hl ⊢
  have hl : lv_has ls 6 [(0, .ref h), (1, .int x), (2, .int y), (3, .long cv)] := hl
  have kf33 := hts (.fieldLink RX0 33 "TimeNet" "count" "I") (by decide +kernel)
  have kf9 := hts (.fieldLink RX0 9 "TimeNet" "firstPoint" "[I") (by decide +kernel)
  have kf13 := hts (.fieldLink RX0 13 "TimeNet" "secondPoint" "[I") (by decide +kernel)
  have kf16 := hts (.fieldLink RX0 16 "TimeNet" "most" "[J") (by decide +kernel)
  have kf20 := hts (.fieldLink RX0 20 "TimeNet" "isOn" "[Z") (by decide +kernel)
  have kf44 := hts (.fieldLink RX0 44 "TimeNet" "onCount" "I") (by decide +kernel)
  have hin : ∀ w ∈ u_ws RX0 TX0 11, w ∈ wsX0_add := by decide +kernel
  have hc := g.1
  refine lv_aload_n hx hb dX0_add_0 rfl (lv_at hl 0 rfl) ?_
  refine va_get (D := (dC, dI)) (ci := 0) (v := .int (nI cnt)) (C := RX0) (T := TX0) (N := 11) hx hb hts hin hown hK hP 0 rfl rfl 4 (by decide) kf33 (fun _ h9 => h9) rfl dX0_add_1 ?_
  refine lv_bipush (v := nI 120) hx hb dX0_add_4 (by decide) ?_
  refine lv_icmp_ge (tgt := 18) hx hb dX0_add_6 (by decide) (fun c_6 => ?_) (fun c_6 => ?_)
  · skip
    have hfull : 120 ≤ cnt := (nI_leI (by omega) (by omega)).mp c_6
    refine lv_iconst (v := (-1)) hx hb dX0_add_18 (by decide) ?_
    exact W.iret (v := (-1)) hx hb hr (fun t ht hW => ⟨⟨(-1), ((lf, sf), cnt, onc, fp, sp, mo, on, rp, rs, rl), rfl, ⟨Or.inr ⟨fun q => absurd q (by omega), rfl, rfl, rfl, rfl, rfl, rfl, rfl, rfl, rfl⟩, rfl⟩, by rw [ht]; exact hP, va_K.moved hW.alike hK, hD⟩, hS.F ht⟩) hS.2.2 dX0_add_19
  · skip
    have hfull : cnt < 120 := Nat.lt_of_not_le (fun q => c_6 (nI_le q (by omega)))
    refine lv_iload_n hx hb dX0_add_9 rfl (lv_at hl 1 rfl) ?_
    refine lv_iload_n hx hb dX0_add_10 rfl (lv_at hl 2 rfl) ?_
    refine lv_lload_n hx hb dX0_add_11 rfl (lv_at hl 3 rfl) ?_
    have hF := tn_freeA hD hS hA
    refine va_calli (va_runS (As := [.int x, .int y, .long cv]) (rest := []) ⟨hx, hb, hml, hown, hts⟩ (cX0_isConstraint_ok l dC dI h a1 a2 a3 a4 a5 a6 a7 cI cL cZ cnt onc fp sp mo on lf sf rp rs rl s.heap.size x y cv) (va_cwS 3 hts gX0_add_X0_isConstraint rfl rfl rfl (by decide +kernel) ⟨Nat.le_of_ble_eq_true rfl, Nat.le_of_ble_eq_true rfl⟩) (tn_preS hK hP hD) rfl rfl hl.1 rfl (lv_room (Nat.le_of_ble_eq_true rfl)) dX0_add_12 ⟨Nat.le_of_ble_eq_true rfl, Nat.le_of_ble_eq_true rfl⟩) hS (fun q _ h => hF q h) hF (fun r_12 u_12 t H1 locs ht hvm hw_12 hB hz1 hk1 hS => ?_)
    obtain ⟨hP1, -, hD1⟩ := hB
    rw [ht] at hP1
    have hD := hD1.weaken (fun _ q _ hq => hF q.1 hq)
    clear hP hk1 hF hz1 ht hvm hD1
    generalize H1 = H at hP1 hS ⊢
    have hP := hP1
    clear hP1
    refine lv_if_ne (tgt := 20) hx hb dX0_add_15 (by decide) (fun c_15 => ?_) (fun c_15 => ?_)
    · skip
      obtain ⟨a, b, ha, hb', hab, ex, ey, hc1, hc2⟩ : ∃ a b, a < 20 ∧ b < 20 ∧ a ≠ b ∧ x = nI a ∧ y = nI b ∧ -1000000000000 ≤ cv.toInt ∧ cv.toInt ≤ 1000000000000 := by
        rcases hw_12 with ⟨_, q⟩ | ⟨q, _⟩
        · exact q
        · exact absurd (q : r_12 = 0) c_15
      subst ex
      subst ey
      refine lv_aload_n hx hb dX0_add_20 rfl (lv_at hl 0 rfl) ?_
      refine lv_iload_n hx hb dX0_add_21 rfl (lv_at hl 1 rfl) ?_
      refine lv_iload_n hx hb dX0_add_22 rfl (lv_at hl 2 rfl) ?_
      refine lv_lload_n hx hb dX0_add_23 rfl (lv_at hl 3 rfl) ?_
      have hF := tn_freeA hD hS hA
      refine va_calli (va_runV (As := [.int (nI a), .int (nI b), .long cv]) (rest := []) ⟨hx, hb, hml, hown, hts⟩ (cX0_refuse_ok l dC dI h a1 a2 a3 a4 a5 a6 a7 cI cL cZ cnt onc fp sp mo on lf sf rp rs rl H.size g ok a ha b hb' cv hc1 hc2) (cwV 3 hts gX0_add_X0_refuse rfl rfl rfl (by decide +kernel) ⟨Nat.le_of_ble_eq_true rfl, Nat.le_of_ble_eq_true rfl⟩) (tn_preV hK hP hD (ci := 0) rfl 0 rfl) rfl rfl hl.1 rfl (lv_room (Nat.le_of_ble_eq_true rfl)) dX0_add_24 ⟨Nat.le_of_ble_eq_true rfl, Nat.le_of_ble_eq_true rfl⟩) hS (fun q _ h => hF q h) hF (fun r_24 u_24 t H1 locs ht hvm hw_24 hB hz1 hk1 hS => ?_)
      obtain ⟨hP1, -, hD1⟩ := hB
      rw [ht] at hP1
      have hD := hD1.weaken (fun _ q _ hq => hF q.1 hq)
      clear hP hk1 hF hz1 ht hvm hD1
      generalize H1 = H at hP1 hS ⊢
      have hP := hP1
      clear hP1
      refine lv_if_eq (tgt := 33) hx hb dX0_add_27 (by decide) (fun c_27 => ?_) (fun c_27 => ?_)
      · skip
        have hr0 : r_24 = nI 0 := c_27
        refine lv_aload_n hx hb dX0_add_33 rfl (lv_at hl 0 rfl) ?_
        refine va_get (D := (dC, dI)) (ci := 0) (v := .int (nI cnt)) (C := RX0) (T := TX0) (N := 11) hx hb hts hin hown hK hP 0 rfl rfl 4 (by decide) kf33 (fun _ h9 => h9) rfl dX0_add_34 ?_
        refine lv_istore (lv' := [(5, .int (nI cnt)), (0, .ref h), (1, .int (nI a)), (2, .int (nI b)), (3, .long cv)]) hx hb dX0_add_37 hl (by decide) rfl (fun ls hl => ?_)
        refine lv_aload_n hx hb dX0_add_39 rfl (lv_at hl 1 rfl) ?_
        refine va_get (D := (dC, dI)) (ci := 0) (v := .ref a1) (C := RX0) (T := TX0) (N := 11) hx hb hts hin hown hK hP 0 rfl rfl 0 (by decide) kf9 (fun _ h9 => h9) rfl dX0_add_40 ?_
        refine lv_iload hx hb dX0_add_43 (lv_at hl 0 rfl) ?_
        refine lv_iload_n hx hb dX0_add_45 rfl (lv_at hl 2 rfl) ?_
        refine tn_iast (i := cnt) (f' := (fun k => nI (va_up fp cnt a k))) hx hb hK hP hD hS 1 0 rfl rfl (by omega) (by decide) (tn_updN fp cnt a) dX0_add_46 (fun H locs hP hD hS => ?_)
        have hP : va_P (dC, dI) vwCl (tn_ws h a1 a2 a3 a4 a5 a6 a7 cI cL cZ cnt onc (va_up fp cnt a) sp mo on u_24.1.1 u_24.1.2 u_24.2.1 u_24.2.2.1 u_24.2.2.2) H := hP
        have hD : va_D A (tn_ws h a1 a2 a3 a4 a5 a6 a7 cI cL cZ cnt onc (va_up fp cnt a) sp mo on u_24.1.1 u_24.1.2 u_24.2.1 u_24.2.2.1 u_24.2.2.2) := hD
        refine lv_aload_n hx hb dX0_add_47 rfl (lv_at hl 1 rfl) ?_
        refine va_get (D := (dC, dI)) (ci := 0) (v := .ref a2) (C := RX0) (T := TX0) (N := 11) hx hb hts hin hown hK hP 0 rfl rfl 1 (by decide) kf13 (fun _ h9 => h9) rfl dX0_add_48 ?_
        refine lv_iload hx hb dX0_add_51 (lv_at hl 0 rfl) ?_
        refine lv_iload_n hx hb dX0_add_53 rfl (lv_at hl 3 rfl) ?_
        refine tn_iast (i := cnt) (f' := (fun k => nI (va_up sp cnt b k))) hx hb hK hP hD hS 2 0 rfl rfl (by omega) (by decide) (tn_updN sp cnt b) dX0_add_54 (fun H locs hP hD hS => ?_)
        have hP : va_P (dC, dI) vwCl (tn_ws h a1 a2 a3 a4 a5 a6 a7 cI cL cZ cnt onc (va_up fp cnt a) (va_up sp cnt b) mo on u_24.1.1 u_24.1.2 u_24.2.1 u_24.2.2.1 u_24.2.2.2) H := hP
        have hD : va_D A (tn_ws h a1 a2 a3 a4 a5 a6 a7 cI cL cZ cnt onc (va_up fp cnt a) (va_up sp cnt b) mo on u_24.1.1 u_24.1.2 u_24.2.1 u_24.2.2.1 u_24.2.2.2) := hD
        refine lv_aload_n hx hb dX0_add_55 rfl (lv_at hl 1 rfl) ?_
        refine va_get (D := (dC, dI)) (ci := 0) (v := .ref a3) (C := RX0) (T := TX0) (N := 11) hx hb hts hin hown hK hP 0 rfl rfl 2 (by decide) kf16 (fun _ h9 => h9) rfl dX0_add_56 ?_
        refine lv_iload hx hb dX0_add_59 (lv_at hl 0 rfl) ?_
        refine lv_lload_n hx hb dX0_add_61 rfl (lv_at hl 4 rfl) ?_
        refine tn_last (i := cnt) (f' := (vp_updL mo cnt cv)) hx hb hK hP hD hS 3 1 rfl rfl (by omega) (by decide) rfl dX0_add_62 (fun H locs hP hD hS => ?_)
        have hP : va_P (dC, dI) vwCl (tn_ws h a1 a2 a3 a4 a5 a6 a7 cI cL cZ cnt onc (va_up fp cnt a) (va_up sp cnt b) (vp_updL mo cnt cv) on u_24.1.1 u_24.1.2 u_24.2.1 u_24.2.2.1 u_24.2.2.2) H := hP
        have hD : va_D A (tn_ws h a1 a2 a3 a4 a5 a6 a7 cI cL cZ cnt onc (va_up fp cnt a) (va_up sp cnt b) (vp_updL mo cnt cv) on u_24.1.1 u_24.1.2 u_24.2.1 u_24.2.2.1 u_24.2.2.2) := hD
        refine lv_aload_n hx hb dX0_add_63 rfl (lv_at hl 1 rfl) ?_
        refine va_get (D := (dC, dI)) (ci := 0) (v := .ref a4) (C := RX0) (T := TX0) (N := 11) hx hb hts hin hown hK hP 0 rfl rfl 3 (by decide) kf20 (fun _ h9 => h9) rfl dX0_add_64 ?_
        refine lv_iload hx hb dX0_add_67 (lv_at hl 0 rfl) ?_
        refine lv_iconst (v := nI 1) hx hb dX0_add_69 (by decide) ?_
        refine tn_zast (i := cnt) (f' := (fun k => tn_b (va_up on cnt true k))) hx hb hK hP hD hS 4 2 rfl rfl (by omega) (by decide) (tn_updB on cnt true) dX0_add_70 (fun H locs hP hD hS => ?_)
        have hP : va_P (dC, dI) vwCl (tn_ws h a1 a2 a3 a4 a5 a6 a7 cI cL cZ cnt onc (va_up fp cnt a) (va_up sp cnt b) (vp_updL mo cnt cv) (va_up on cnt true) u_24.1.1 u_24.1.2 u_24.2.1 u_24.2.2.1 u_24.2.2.2) H := hP
        have hD : va_D A (tn_ws h a1 a2 a3 a4 a5 a6 a7 cI cL cZ cnt onc (va_up fp cnt a) (va_up sp cnt b) (vp_updL mo cnt cv) (va_up on cnt true) u_24.1.1 u_24.1.2 u_24.2.1 u_24.2.2.1 u_24.2.2.2) := hD
        refine lv_aload_n hx hb dX0_add_71 rfl (lv_at hl 1 rfl) ?_
        refine lv_dup hx hb dX0_add_72 rfl ?_
        refine va_get (D := (dC, dI)) (ci := 0) (v := .int (nI cnt)) (C := RX0) (T := TX0) (N := 11) hx hb hts hin hown hK hP 0 rfl rfl 4 (by decide) kf33 (fun _ h9 => h9) rfl dX0_add_73 ?_
        refine lv_iconst (v := nI 1) hx hb dX0_add_76 (by decide) ?_
        refine tn_iadd (a := cnt) (b := 1) hx hb dX0_add_77 ?_
        refine va_put (D := (dC, dI)) (ci := 0) (v := .int (nI (cnt + 1))) (ty := .int) (C := RX0) (T := TX0) (N := 11) hx hb hts hin tyX0 tyX0_ok nmX0 hown hK hP hD hS 0 rfl rfl 4 (by decide) kf33 (fun _ h9 => h9) rfl (by decide +kernel) rfl rfl (Nat.le_of_ble_eq_true rfl) dX0_add_78 (fun H locs hP hD hS => ?_)
        have hP : va_P (dC, dI) vwCl (tn_ws h a1 a2 a3 a4 a5 a6 a7 cI cL cZ (cnt + 1) onc (va_up fp cnt a) (va_up sp cnt b) (vp_updL mo cnt cv) (va_up on cnt true) u_24.1.1 u_24.1.2 u_24.2.1 u_24.2.2.1 u_24.2.2.2) H := hP
        have hD : va_D A (tn_ws h a1 a2 a3 a4 a5 a6 a7 cI cL cZ (cnt + 1) onc (va_up fp cnt a) (va_up sp cnt b) (vp_updL mo cnt cv) (va_up on cnt true) u_24.1.1 u_24.1.2 u_24.2.1 u_24.2.2.1 u_24.2.2.2) := hD
        refine lv_aload_n hx hb dX0_add_81 rfl (lv_at hl 1 rfl) ?_
        refine lv_dup hx hb dX0_add_82 rfl ?_
        refine va_get (D := (dC, dI)) (ci := 0) (v := .int (nI onc)) (C := RX0) (T := TX0) (N := 11) hx hb hts hin hown hK hP 0 rfl rfl 5 (by decide) kf44 (fun _ h9 => h9) rfl dX0_add_83 ?_
        refine lv_iconst (v := nI 1) hx hb dX0_add_86 (by decide) ?_
        refine tn_iadd (a := onc) (b := 1) hx hb dX0_add_87 ?_
        refine va_put (D := (dC, dI)) (ci := 0) (v := .int (nI (onc + 1))) (ty := .int) (C := RX0) (T := TX0) (N := 11) hx hb hts hin tyX0 tyX0_ok nmX0 hown hK hP hD hS 0 rfl rfl 5 (by decide) kf44 (fun _ h9 => h9) rfl (by decide +kernel) rfl rfl (Nat.le_of_ble_eq_true rfl) dX0_add_88 (fun H locs hP hD hS => ?_)
        have hP : va_P (dC, dI) vwCl (tn_ws h a1 a2 a3 a4 a5 a6 a7 cI cL cZ (cnt + 1) (onc + 1) (va_up fp cnt a) (va_up sp cnt b) (vp_updL mo cnt cv) (va_up on cnt true) u_24.1.1 u_24.1.2 u_24.2.1 u_24.2.2.1 u_24.2.2.2) H := hP
        have hD : va_D A (tn_ws h a1 a2 a3 a4 a5 a6 a7 cI cL cZ (cnt + 1) (onc + 1) (va_up fp cnt a) (va_up sp cnt b) (vp_updL mo cnt cv) (va_up on cnt true) u_24.1.1 u_24.1.2 u_24.2.1 u_24.2.2.1 u_24.2.2.2) := hD
        refine lv_iload hx hb dX0_add_91 (lv_at hl 0 rfl) ?_
        exact W.iret (v := nI cnt) hx hb hr (fun t ht hW => ⟨⟨nI cnt, ((u_24.1.1, u_24.1.2), (cnt + 1), (onc + 1), va_up fp cnt a, va_up sp cnt b, vp_updL mo cnt cv, va_up on cnt true, u_24.2.1, u_24.2.2.1, u_24.2.2.2), rfl, ⟨Or.inl ⟨a, b, r_24, hfull, ha, hb', hab, rfl, rfl, hc1, hc2, hw_24, Or.inr ⟨hr0, rfl, rfl, rfl, rfl, rfl, rfl⟩⟩, by show onc + 1 + cnt = onc + (cnt + 1); omega⟩, by rw [ht]; exact hP, va_K.moved hW.alike hK, hD⟩, hS.F ht⟩) hS.2.2 dX0_add_93
      · skip
        have hr1 : r_24 = nI 1 := by
          rcases hw_24 with ⟨_, _, _, _, _, q, _⟩ | ⟨_, q, _⟩
          · exact q
          · exact absurd (q : r_24 = 0) c_27
        refine lv_bipush (v := (-2)) hx hb dX0_add_30 (by decide) ?_
        exact W.iret (v := (-2)) hx hb hr (fun t ht hW => ⟨⟨(-2), ((u_24.1.1, u_24.1.2), cnt, onc, fp, sp, mo, on, u_24.2.1, u_24.2.2.1, u_24.2.2.2), rfl, ⟨Or.inl ⟨a, b, r_24, hfull, ha, hb', hab, rfl, rfl, hc1, hc2, hw_24, Or.inl ⟨hr1, rfl, rfl, rfl, rfl, rfl, rfl⟩⟩, rfl⟩, by rw [ht]; exact hP, va_K.moved hW.alike hK, hD⟩, hS.F ht⟩) hS.2.2 dX0_add_32
    · skip
      have hnc : ¬ ∃ a b, a < 20 ∧ b < 20 ∧ a ≠ b ∧ x = nI a ∧ y = nI b ∧ -1000000000000 ≤ cv.toInt ∧ cv.toInt ≤ 1000000000000 := by
        rcases hw_12 with ⟨q, _⟩ | ⟨_, q⟩
        · exact absurd (q ▸ c_15 : nI 1 = 0) (by decide)
        · exact q
      refine lv_iconst (v := (-1)) hx hb dX0_add_18 (by decide) ?_
      exact W.iret (v := (-1)) hx hb hr (fun t ht hW => ⟨⟨(-1), ((lf, sf), cnt, onc, fp, sp, mo, on, rp, rs, rl), rfl, ⟨Or.inr ⟨fun _ a b h1 h2 h3 h4 h5 h6 h7 => hnc ⟨a, b, h1, h2, h3, h4, h5, h6, h7⟩, rfl, rfl, rfl, rfl, rfl, rfl, rfl, rfl, rfl⟩, rfl⟩, by rw [ht]; exact hP, va_K.moved hW.alike hK, hD⟩, hS.F ht⟩) hS.2.2 dX0_add_19
end
section
set_option maxHeartbeats 4000000 in
set_option maxRecDepth 100000 in
/-- off(x) -/
theorem cX0_off_ok (l : Launch) (dC : Nat → ClassId) (dI : Nat → Nat → Nat) (h a1 a2 a3 a4 a5 a6 a7 : Nat) (cI cL cZ : ClassId) (cnt onc : Nat) (fp sp : Nat → Nat) (mo : Nat → Int64) (on : Nat → Bool) (lf : Nat → Int64) (sf : Nat → Int32) (rp : Nat → Nat) (rs : Nat) (rl : Int64) (sz : Nat) (hc : cnt ≤ 120) (hoc : onc = tn_cn on cnt) (x : Int32) : Met l yX0_off wsX0_off ({ frames := 1, cells := 0, slots := 0, locals := 21 }) (va_Pc [.ref h, .int x] (tn_Pre dC dI (tn_tys cI cL cZ) (tn_ws h a1 a2 a3 a4 a5 a6 a7 cI cL cZ cnt onc fp sp mo on lf sf rp rs rl) sz)) (va_Qi (S := Nat × (Nat → Bool)) (fun r u => sp_off cnt on x r u.2 ∧ u.1 = tn_cn u.2 cnt) (fun u t => tn_at dC dI (tn_tys cI cL cZ) (va_A (tn_ws h a1 a2 a3 a4 a5 a6 a7 cI cL cZ cnt onc fp sp mo on lf sf rp rs rl) sz) (tn_ws h a1 a2 a3 a4 a5 a6 a7 cI cL cZ cnt u.1 fp sp mo u.2 lf sf rp rs rl) t) (va_A (tn_ws h a1 a2 a3 a4 a5 a6 a7 cI cL cZ cnt onc fp sp mo on lf sf rp rs rl) sz)) 0 0 (va_A (tn_ws h a1 a2 a3 a4 a5 a6 a7 cI cL cZ cnt onc fp sp mo on lf sf rp rs rl) sz) := by
  refine Met.ofW (cc := cX0_off) (maxL := 2) (ret := (some .boolean)) (by decide) rfl ?_
  intro p e s m args below meth c s₁ B hml hv
  obtain ⟨rfl, hsz, hP, hK, hD0⟩ := hv
  have hx := B.exec
  have hb := B.bytes
  have hr := B.returns
  have hts := atoms_spec (ws := wsX0_off) B.pre
  have hown : s.vm.findClass RX0 = some m.cls := findClass_of_methodNamed B.named
  have hlocks := B.notSynchronized
  subst hsz
  have hD := hD0.self (sz := s.heap.size)
  generalize hAe : va_A (tn_ws h a1 a2 a3 a4 a5 a6 a7 cI cL cZ cnt onc fp sp mo on lf sf rp rs rl) s.heap.size = A at hD ⊢
  have hA : ∀ q : Nat, s.heap.size ≤ q → A q := fun q h => by rw [← hAe]; exact Or.inr h
  have hS : va_S A s.heap s.heap [] := va_S.rf
  have hl := lv_entry ([.ref h, .int x]) (n := 2) (Nat.le_of_ble_eq_true rfl)
  rw [lg_entry_eq]
  generalize (lg_sl ([.ref h, .int x]) ++ List.replicate (2 - (lg_sl ([.ref h, .int x])).length) Slot.unset).toArray = ls at hl ⊢
  have hl : lv_has ls 2 [(0, .ref h), (1, .int x)] := hl
  have kf20 := hts (.fieldLink RX0 20 "TimeNet" "isOn" "[Z") (by decide +kernel)
  have kf44 := hts (.fieldLink RX0 44 "TimeNet" "onCount" "I") (by decide +kernel)
  have hin : ∀ w ∈ u_ws RX0 TX0 11, w ∈ wsX0_off := by decide +kernel
  refine lv_aload_n hx hb dX0_off_0 rfl (lv_at hl 0 rfl) ?_
  refine lv_iload_n hx hb dX0_off_1 rfl (lv_at hl 1 rfl) ?_
  have hF := tn_freeA hD hS hA
  refine va_calli (va_runV (As := [.int x]) (rest := []) ⟨hx, hb, hml, hown, hts⟩ (cX0_isNumber_ok l dC dI h a1 a2 a3 a4 a5 a6 a7 cI cL cZ cnt onc fp sp mo on lf sf rp rs rl s.heap.size hc x) (cwV 1 hts gX0_off_X0_isNumber rfl rfl rfl (by decide +kernel) ⟨Nat.le_of_ble_eq_true rfl, Nat.le_of_ble_eq_true rfl⟩) (tn_preV hK hP hD (ci := 0) rfl 0 rfl) rfl rfl hl.1 rfl (lv_room (Nat.le_of_ble_eq_true rfl)) dX0_off_2 ⟨Nat.le_of_ble_eq_true rfl, Nat.le_of_ble_eq_true rfl⟩) hS (fun q _ h => hF q h) hF (fun r_2 u_2 t H1 locs ht hvm hw_2 hB hz1 hk1 hS => ?_)
  obtain ⟨hP1, -, hD1⟩ := hB
  rw [ht] at hP1
  have hD := hD1.weaken (fun _ q _ hq => hF q.1 hq)
  clear hP hk1 hF hz1 ht hvm hD1
  generalize H1 = H at hP1 hS ⊢
  have hP := hP1
  clear hP1
  refine lv_if_eq (tgt := 17) hx hb dX0_off_5 (by decide) (fun c_5 => ?_) (fun c_5 => ?_)
  · skip
    have hn_2 : ∀ j, j < cnt → x ≠ nI j := by
      rcases hw_2 with ⟨q, _⟩ | ⟨_, q⟩
      · exact absurd (q ▸ c_5 : nI 1 = 0) (by decide)
      · exact q
    refine lv_iconst (v := nI 0) hx hb dX0_off_17 (by decide) ?_
    exact W.zret (v := nI 0) hx hb hr rfl (fun t ht hW => ⟨⟨nI 0, (onc, on), rfl, ⟨Or.inr ⟨fun k hk e => absurd e (hn_2 k hk), rfl, rfl⟩, hoc⟩, by rw [ht]; exact hP, va_K.moved hW.alike hK, hD⟩, hS.F ht⟩) hS.2.2 dX0_off_18
  · skip
    obtain ⟨k, hk, ex⟩ : ∃ j, j < cnt ∧ x = nI j := by
      rcases hw_2 with ⟨_, q⟩ | ⟨q, _⟩
      · exact q
      · exact absurd (q : r_2 = 0) c_5
    subst ex
    refine lv_aload_n hx hb dX0_off_8 rfl (lv_at hl 0 rfl) ?_
    refine va_get (D := (dC, dI)) (ci := 0) (v := .ref a4) (C := RX0) (T := TX0) (N := 11) hx hb hts hin hown hK hP 0 rfl rfl 3 (by decide) kf20 (fun _ h9 => h9) rfl dX0_off_9 ?_
    refine lv_iload_n hx hb dX0_off_12 rfl (lv_at hl 1 rfl) ?_
    refine tn_zald (i := k) (v := tn_b (on k)) hx hb hK hP 4 2 rfl rfl (by omega) (by decide) rfl dX0_off_13 ?_
    refine lv_if_ne (tgt := 19) hx hb dX0_off_14 (by decide) (fun c_14 => ?_) (fun c_14 => ?_)
    · skip
      have ho := tn_b_ne0 c_14
      have hp := tn_cn_pos hk ho
      refine lv_aload_n hx hb dX0_off_19 rfl (lv_at hl 0 rfl) ?_
      refine va_get (D := (dC, dI)) (ci := 0) (v := .ref a4) (C := RX0) (T := TX0) (N := 11) hx hb hts hin hown hK hP 0 rfl rfl 3 (by decide) kf20 (fun _ h9 => h9) rfl dX0_off_20 ?_
      refine lv_iload_n hx hb dX0_off_23 rfl (lv_at hl 1 rfl) ?_
      refine lv_iconst (v := nI 0) hx hb dX0_off_24 (by decide) ?_
      refine tn_zast (i := k) (f' := (fun zz => tn_b (va_up on k false zz))) hx hb hK hP hD hS 4 2 rfl rfl (by omega) (by decide) (tn_updB on k false) dX0_off_25 (fun H locs hP hD hS => ?_)
      have hP : va_P (dC, dI) vwCl (tn_ws h a1 a2 a3 a4 a5 a6 a7 cI cL cZ cnt onc fp sp mo (va_up on k false) lf sf rp rs rl) H := hP
      have hD : va_D A (tn_ws h a1 a2 a3 a4 a5 a6 a7 cI cL cZ cnt onc fp sp mo (va_up on k false) lf sf rp rs rl) := hD
      refine lv_aload_n hx hb dX0_off_26 rfl (lv_at hl 0 rfl) ?_
      refine lv_dup hx hb dX0_off_27 rfl ?_
      refine va_get (D := (dC, dI)) (ci := 0) (v := .int (nI onc)) (C := RX0) (T := TX0) (N := 11) hx hb hts hin hown hK hP 0 rfl rfl 5 (by decide) kf44 (fun _ h9 => h9) rfl dX0_off_28 ?_
      refine lv_iconst (v := nI 1) hx hb dX0_off_31 (by decide) ?_
      refine tn_isub (a := onc) (b := 1) hx hb (by omega) dX0_off_32 ?_
      refine va_put (D := (dC, dI)) (ci := 0) (v := .int (nI (onc - 1))) (ty := .int) (C := RX0) (T := TX0) (N := 11) hx hb hts hin tyX0 tyX0_ok nmX0 hown hK hP hD hS 0 rfl rfl 5 (by decide) kf44 (fun _ h9 => h9) rfl (by decide +kernel) rfl rfl (Nat.le_of_ble_eq_true rfl) dX0_off_33 (fun H locs hP hD hS => ?_)
      have hP : va_P (dC, dI) vwCl (tn_ws h a1 a2 a3 a4 a5 a6 a7 cI cL cZ cnt (onc - 1) fp sp mo (va_up on k false) lf sf rp rs rl) H := hP
      have hD : va_D A (tn_ws h a1 a2 a3 a4 a5 a6 a7 cI cL cZ cnt (onc - 1) fp sp mo (va_up on k false) lf sf rp rs rl) := hD
      refine lv_iconst (v := nI 1) hx hb dX0_off_36 (by decide) ?_
      exact W.zret (v := nI 1) hx hb hr rfl (fun t ht hW => ⟨⟨nI 1, ((onc - 1), va_up on k false), rfl, ⟨Or.inl ⟨k, hk, rfl, ho, rfl, rfl⟩, by have := tn_cn_off hk ho; show onc - 1 = tn_cn (va_up on k false) cnt; omega⟩, by rw [ht]; exact hP, va_K.moved hW.alike hK, hD⟩, hS.F ht⟩) hS.2.2 dX0_off_37
    · skip
      have ho := tn_b_eq0 c_14
      refine lv_iconst (v := nI 0) hx hb dX0_off_17 (by decide) ?_
      exact W.zret (v := nI 0) hx hb hr rfl (fun t ht hW => ⟨⟨nI 0, (onc, on), rfl, ⟨Or.inr ⟨fun k2 hk2 e => by rw [(nI_eq (by omega) (by omega)).mp e] at ho; exact ho, rfl, rfl⟩, hoc⟩, by rw [ht]; exact hP, va_K.moved hW.alike hK, hD⟩, hS.F ht⟩) hS.2.2 dX0_off_18
set_option maxHeartbeats 4000000 in
set_option maxRecDepth 100000 in
/-- on(x) -/
theorem cX0_on_ok (l : Launch) (dC : Nat → ClassId) (dI : Nat → Nat → Nat) (h a1 a2 a3 a4 a5 a6 a7 : Nat) (cI cL cZ : ClassId) (cnt onc : Nat) (fp sp : Nat → Nat) (mo : Nat → Int64) (on : Nat → Bool) (lf : Nat → Int64) (sf : Nat → Int32) (rp : Nat → Nat) (rs : Nat) (rl : Int64) (sz : Nat) (g : tn_good cnt fp sp mo) (ok : tn_ok (tn_E cnt fp sp mo on)) (hoc : onc = tn_cn on cnt) (x : Int32) : Met l yX0_on wsX0_on ({ frames := 5, cells := 0, slots := 0, locals := 118 }) (va_Pc [.ref h, .int x] (tn_Pre dC dI (tn_tys cI cL cZ) (tn_ws h a1 a2 a3 a4 a5 a6 a7 cI cL cZ cnt onc fp sp mo on lf sf rp rs rl) sz)) (va_Qi (S := tn_D × Nat × (Nat → Bool) × (Nat → Nat) × Nat × Int64) (fun r u => sp_on cnt fp sp mo on x r rp rs rl u.2.2.1 u.2.2.2.1 u.2.2.2.2.1 u.2.2.2.2.2 ∧ u.2.1 = tn_cn u.2.2.1 cnt) (fun u t => tn_at dC dI (tn_tys cI cL cZ) (va_A (tn_ws h a1 a2 a3 a4 a5 a6 a7 cI cL cZ cnt onc fp sp mo on lf sf rp rs rl) sz) (tn_ws h a1 a2 a3 a4 a5 a6 a7 cI cL cZ cnt u.2.1 fp sp mo u.2.2.1 u.1.1 u.1.2 u.2.2.2.1 u.2.2.2.2.1 u.2.2.2.2.2) t) (va_A (tn_ws h a1 a2 a3 a4 a5 a6 a7 cI cL cZ cnt onc fp sp mo on lf sf rp rs rl) sz)) 0 0 (va_A (tn_ws h a1 a2 a3 a4 a5 a6 a7 cI cL cZ cnt onc fp sp mo on lf sf rp rs rl) sz) := by
  refine Met.ofW (cc := cX0_on) (maxL := 2) (ret := (some .int)) (by decide) rfl ?_
  intro p e s m args below meth c s₁ B hml hv
  obtain ⟨rfl, hsz, hP, hK, hD0⟩ := hv
  have hx := B.exec
  have hb := B.bytes
  have hr := B.returns
  have hts := atoms_spec (ws := wsX0_on) B.pre
  have hown : s.vm.findClass RX0 = some m.cls := findClass_of_methodNamed B.named
  have hlocks := B.notSynchronized
  subst hsz
  have hD := hD0.self (sz := s.heap.size)
  generalize hAe : va_A (tn_ws h a1 a2 a3 a4 a5 a6 a7 cI cL cZ cnt onc fp sp mo on lf sf rp rs rl) s.heap.size = A at hD ⊢
  have hA : ∀ q : Nat, s.heap.size ≤ q → A q := fun q h => by rw [← hAe]; exact Or.inr h
  have hS : va_S A s.heap s.heap [] := va_S.rf
  have hl := lv_entry ([.ref h, .int x]) (n := 2) (Nat.le_of_ble_eq_true rfl)
  rw [lg_entry_eq]
  generalize (lg_sl ([.ref h, .int x]) ++ List.replicate (2 - (lg_sl ([.ref h, .int x])).length) Slot.unset).toArray = ls at hl ⊢
  have hl : lv_has ls 2 [(0, .ref h), (1, .int x)] := hl
  have kf20 := hts (.fieldLink RX0 20 "TimeNet" "isOn" "[Z") (by decide +kernel)
  have kf9 := hts (.fieldLink RX0 9 "TimeNet" "firstPoint" "[I") (by decide +kernel)
  have kf13 := hts (.fieldLink RX0 13 "TimeNet" "secondPoint" "[I") (by decide +kernel)
  have kf16 := hts (.fieldLink RX0 16 "TimeNet" "most" "[J") (by decide +kernel)
  have kf44 := hts (.fieldLink RX0 44 "TimeNet" "onCount" "I") (by decide +kernel)
  have hin : ∀ w ∈ u_ws RX0 TX0 11, w ∈ wsX0_on := by decide +kernel
  have hc := g.1
  refine lv_aload_n hx hb dX0_on_0 rfl (lv_at hl 0 rfl) ?_
  refine lv_iload_n hx hb dX0_on_1 rfl (lv_at hl 1 rfl) ?_
  have hF := tn_freeA hD hS hA
  refine va_calli (va_runV (As := [.int x]) (rest := []) ⟨hx, hb, hml, hown, hts⟩ (cX0_isNumber_ok l dC dI h a1 a2 a3 a4 a5 a6 a7 cI cL cZ cnt onc fp sp mo on lf sf rp rs rl s.heap.size hc x) (cwV 1 hts gX0_on_X0_isNumber rfl rfl rfl (by decide +kernel) ⟨Nat.le_of_ble_eq_true rfl, Nat.le_of_ble_eq_true rfl⟩) (tn_preV hK hP hD (ci := 0) rfl 0 rfl) rfl rfl hl.1 rfl (lv_room (Nat.le_of_ble_eq_true rfl)) dX0_on_2 ⟨Nat.le_of_ble_eq_true rfl, Nat.le_of_ble_eq_true rfl⟩) hS (fun q _ h => hF q h) hF (fun r_2 u_2 t H1 locs ht hvm hw_2 hB hz1 hk1 hS => ?_)
  obtain ⟨hP1, -, hD1⟩ := hB
  rw [ht] at hP1
  have hD := hD1.weaken (fun _ q _ hq => hF q.1 hq)
  clear hP hk1 hF hz1 ht hvm hD1
  generalize H1 = H at hP1 hS ⊢
  have hP := hP1
  clear hP1
  refine lv_if_eq (tgt := 17) hx hb dX0_on_5 (by decide) (fun c_5 => ?_) (fun c_5 => ?_)
  · skip
    have hn_2 : ∀ j, j < cnt → x ≠ nI j := by
      rcases hw_2 with ⟨q, _⟩ | ⟨_, q⟩
      · exact absurd (q ▸ c_5 : nI 1 = 0) (by decide)
      · exact q
    refine lv_iconst (v := (-1)) hx hb dX0_on_17 (by decide) ?_
    exact W.iret (v := (-1)) hx hb hr (fun t ht hW => ⟨⟨(-1), ((lf, sf), onc, on, rp, rs, rl), rfl, ⟨Or.inr ⟨fun k hk e => absurd e (hn_2 k hk), rfl, rfl, rfl, rfl, rfl⟩, hoc⟩, by rw [ht]; exact hP, va_K.moved hW.alike hK, hD⟩, hS.F ht⟩) hS.2.2 dX0_on_18
  · skip
    obtain ⟨k, hk, ex⟩ : ∃ j, j < cnt ∧ x = nI j := by
      rcases hw_2 with ⟨_, q⟩ | ⟨q, _⟩
      · exact q
      · exact absurd (q : r_2 = 0) c_5
    subst ex
    refine lv_aload_n hx hb dX0_on_8 rfl (lv_at hl 0 rfl) ?_
    refine va_get (D := (dC, dI)) (ci := 0) (v := .ref a4) (C := RX0) (T := TX0) (N := 11) hx hb hts hin hown hK hP 0 rfl rfl 3 (by decide) kf20 (fun _ h9 => h9) rfl dX0_on_9 ?_
    refine lv_iload_n hx hb dX0_on_12 rfl (lv_at hl 1 rfl) ?_
    refine tn_zald (i := k) (v := tn_b (on k)) hx hb hK hP 4 2 rfl rfl (by omega) (by decide) rfl dX0_on_13 ?_
    refine lv_if_eq (tgt := 19) hx hb dX0_on_14 (by decide) (fun c_14 => ?_) (fun c_14 => ?_)
    · skip
      have ho := tn_b_eq0 c_14
      have hk0 := (g.2 k hk).1
      have hk1 := (g.2 k hk).2.1
      refine lv_aload_n hx hb dX0_on_19 rfl (lv_at hl 0 rfl) ?_
      refine lv_aload_n hx hb dX0_on_20 rfl (lv_at hl 0 rfl) ?_
      refine va_get (D := (dC, dI)) (ci := 0) (v := .ref a1) (C := RX0) (T := TX0) (N := 11) hx hb hts hin hown hK hP 0 rfl rfl 0 (by decide) kf9 (fun _ h9 => h9) rfl dX0_on_21 ?_
      refine lv_iload_n hx hb dX0_on_24 rfl (lv_at hl 1 rfl) ?_
      refine tn_iald (i := k) (v := nI (fp k)) hx hb hK hP 1 0 rfl rfl (by omega) (by decide) rfl dX0_on_25 ?_
      refine lv_aload_n hx hb dX0_on_26 rfl (lv_at hl 0 rfl) ?_
      refine va_get (D := (dC, dI)) (ci := 0) (v := .ref a2) (C := RX0) (T := TX0) (N := 11) hx hb hts hin hown hK hP 0 rfl rfl 1 (by decide) kf13 (fun _ h9 => h9) rfl dX0_on_27 ?_
      refine lv_iload_n hx hb dX0_on_30 rfl (lv_at hl 1 rfl) ?_
      refine tn_iald (i := k) (v := nI (sp k)) hx hb hK hP 2 0 rfl rfl (by omega) (by decide) rfl dX0_on_31 ?_
      refine lv_aload_n hx hb dX0_on_32 rfl (lv_at hl 0 rfl) ?_
      refine va_get (D := (dC, dI)) (ci := 0) (v := .ref a3) (C := RX0) (T := TX0) (N := 11) hx hb hts hin hown hK hP 0 rfl rfl 2 (by decide) kf16 (fun _ h9 => h9) rfl dX0_on_33 ?_
      refine lv_iload_n hx hb dX0_on_36 rfl (lv_at hl 1 rfl) ?_
      refine tn_lald (i := k) (v := mo k) hx hb hK hP 3 1 rfl rfl (by omega) (by decide) rfl dX0_on_37 ?_
      have hF := tn_freeA hD hS hA
      refine va_calli (va_runV (As := [.int (nI (fp k)), .int (nI (sp k)), .long (mo k)]) (rest := []) ⟨hx, hb, hml, hown, hts⟩ (cX0_refuse_ok l dC dI h a1 a2 a3 a4 a5 a6 a7 cI cL cZ cnt onc fp sp mo on lf sf rp rs rl H.size g ok (fp k) hk0 (sp k) hk1 (mo k) (g.2 k hk).2.2.1 (g.2 k hk).2.2.2) (cwV 3 hts gX0_on_X0_refuse rfl rfl rfl (by decide +kernel) ⟨Nat.le_of_ble_eq_true rfl, Nat.le_of_ble_eq_true rfl⟩) (tn_preV hK hP hD (ci := 0) rfl 0 rfl) rfl rfl hl.1 rfl (lv_room (Nat.le_of_ble_eq_true rfl)) dX0_on_38 ⟨Nat.le_of_ble_eq_true rfl, Nat.le_of_ble_eq_true rfl⟩) hS (fun q _ h => hF q h) hF (fun r_38 u_38 t H1 locs ht hvm hw_38 hB hz1 hk1 hS => ?_)
      obtain ⟨hP1, -, hD1⟩ := hB
      rw [ht] at hP1
      have hD := hD1.weaken (fun _ q _ hq => hF q.1 hq)
      clear hP hk1 hF hz1 ht hvm hD1
      generalize H1 = H at hP1 hS ⊢
      have hP := hP1
      clear hP1
      refine lv_if_eq (tgt := 47) hx hb dX0_on_41 (by decide) (fun c_41 => ?_) (fun c_41 => ?_)
      · skip
        have hr0 : r_38 = nI 0 := c_41
        refine lv_aload_n hx hb dX0_on_47 rfl (lv_at hl 0 rfl) ?_
        refine va_get (D := (dC, dI)) (ci := 0) (v := .ref a4) (C := RX0) (T := TX0) (N := 11) hx hb hts hin hown hK hP 0 rfl rfl 3 (by decide) kf20 (fun _ h9 => h9) rfl dX0_on_48 ?_
        refine lv_iload_n hx hb dX0_on_51 rfl (lv_at hl 1 rfl) ?_
        refine lv_iconst (v := nI 1) hx hb dX0_on_52 (by decide) ?_
        refine tn_zast (i := k) (f' := (fun zz => tn_b (va_up on k true zz))) hx hb hK hP hD hS 4 2 rfl rfl (by omega) (by decide) (tn_updB on k true) dX0_on_53 (fun H locs hP hD hS => ?_)
        have hP : va_P (dC, dI) vwCl (tn_ws h a1 a2 a3 a4 a5 a6 a7 cI cL cZ cnt onc fp sp mo (va_up on k true) u_38.1.1 u_38.1.2 u_38.2.1 u_38.2.2.1 u_38.2.2.2) H := hP
        have hD : va_D A (tn_ws h a1 a2 a3 a4 a5 a6 a7 cI cL cZ cnt onc fp sp mo (va_up on k true) u_38.1.1 u_38.1.2 u_38.2.1 u_38.2.2.1 u_38.2.2.2) := hD
        refine lv_aload_n hx hb dX0_on_54 rfl (lv_at hl 0 rfl) ?_
        refine lv_dup hx hb dX0_on_55 rfl ?_
        refine va_get (D := (dC, dI)) (ci := 0) (v := .int (nI onc)) (C := RX0) (T := TX0) (N := 11) hx hb hts hin hown hK hP 0 rfl rfl 5 (by decide) kf44 (fun _ h9 => h9) rfl dX0_on_56 ?_
        refine lv_iconst (v := nI 1) hx hb dX0_on_59 (by decide) ?_
        refine tn_iadd (a := onc) (b := 1) hx hb dX0_on_60 ?_
        refine va_put (D := (dC, dI)) (ci := 0) (v := .int (nI (onc + 1))) (ty := .int) (C := RX0) (T := TX0) (N := 11) hx hb hts hin tyX0 tyX0_ok nmX0 hown hK hP hD hS 0 rfl rfl 5 (by decide) kf44 (fun _ h9 => h9) rfl (by decide +kernel) rfl rfl (Nat.le_of_ble_eq_true rfl) dX0_on_61 (fun H locs hP hD hS => ?_)
        have hP : va_P (dC, dI) vwCl (tn_ws h a1 a2 a3 a4 a5 a6 a7 cI cL cZ cnt (onc + 1) fp sp mo (va_up on k true) u_38.1.1 u_38.1.2 u_38.2.1 u_38.2.2.1 u_38.2.2.2) H := hP
        have hD : va_D A (tn_ws h a1 a2 a3 a4 a5 a6 a7 cI cL cZ cnt (onc + 1) fp sp mo (va_up on k true) u_38.1.1 u_38.1.2 u_38.2.1 u_38.2.2.1 u_38.2.2.2) := hD
        refine lv_iload_n hx hb dX0_on_64 rfl (lv_at hl 1 rfl) ?_
        exact W.iret (v := nI k) hx hb hr (fun t ht hW => ⟨⟨nI k, ((u_38.1.1, u_38.1.2), (onc + 1), va_up on k true, u_38.2.1, u_38.2.2.1, u_38.2.2.2), rfl, ⟨Or.inl ⟨k, r_38, hk, rfl, ho, hw_38, Or.inr ⟨hr0, rfl, rfl⟩⟩, by have := tn_cn_on hk ho; show onc + 1 = tn_cn (va_up on k true) cnt; omega⟩, by rw [ht]; exact hP, va_K.moved hW.alike hK, hD⟩, hS.F ht⟩) hS.2.2 dX0_on_65
      · skip
        have hr1 : r_38 = nI 1 := by
          rcases hw_38 with ⟨_, _, _, _, _, q, _⟩ | ⟨_, q, _⟩
          · exact q
          · exact absurd (q : r_38 = 0) c_41
        refine lv_bipush (v := (-2)) hx hb dX0_on_44 (by decide) ?_
        exact W.iret (v := (-2)) hx hb hr (fun t ht hW => ⟨⟨(-2), ((u_38.1.1, u_38.1.2), onc, on, u_38.2.1, u_38.2.2.1, u_38.2.2.2), rfl, ⟨Or.inl ⟨k, r_38, hk, rfl, ho, hw_38, Or.inl ⟨hr1, rfl, rfl⟩⟩, hoc⟩, by rw [ht]; exact hP, va_K.moved hW.alike hK, hD⟩, hS.F ht⟩) hS.2.2 dX0_on_46
    · skip
      have ho := tn_b_ne0 c_14
      refine lv_iconst (v := (-1)) hx hb dX0_on_17 (by decide) ?_
      exact W.iret (v := (-1)) hx hb hr (fun t ht hW => ⟨⟨(-1), ((lf, sf), onc, on, rp, rs, rl), rfl, ⟨Or.inr ⟨fun k2 hk2 e => by rw [(nI_eq (by omega) (by omega)).mp e] at ho; exact ho, rfl, rfl, rfl, rfl, rfl⟩, hoc⟩, by rw [ht]; exact hP, va_K.moved hW.alike hK, hD⟩, hS.F ht⟩) hS.2.2 dX0_on_18
set_option maxHeartbeats 4000000 in
set_option maxRecDepth 100000 in
/-- steps(x, y) -/
theorem cX0_steps_ok (l : Launch) (dC : Nat → ClassId) (dI : Nat → Nat → Nat) (h a1 a2 a3 a4 a5 a6 a7 : Nat) (cI cL cZ : ClassId) (cnt onc : Nat) (fp sp : Nat → Nat) (mo : Nat → Int64) (on : Nat → Bool) (lf : Nat → Int64) (sf : Nat → Int32) (rp : Nat → Nat) (rs : Nat) (rl : Int64) (sz : Nat) (g : tn_good cnt fp sp mo) (ok : tn_ok (tn_E cnt fp sp mo on)) (x y : Int32) : Met l yX0_steps wsX0_steps ({ frames := 4, cells := 0, slots := 0, locals := 94 }) (va_Pc [.ref h, .int x, .int y] (tn_Pre dC dI (tn_tys cI cL cZ) (tn_ws h a1 a2 a3 a4 a5 a6 a7 cI cL cZ cnt onc fp sp mo on lf sf rp rs rl) sz)) (va_Qi (S := tn_D) (fun r _ => sp_steps (tn_E cnt fp sp mo on) x y r) (fun u t => tn_at dC dI (tn_tys cI cL cZ) (va_A (tn_ws h a1 a2 a3 a4 a5 a6 a7 cI cL cZ cnt onc fp sp mo on lf sf rp rs rl) sz) (tn_ws h a1 a2 a3 a4 a5 a6 a7 cI cL cZ cnt onc fp sp mo on u.1 u.2 rp rs rl) t) (va_A (tn_ws h a1 a2 a3 a4 a5 a6 a7 cI cL cZ cnt onc fp sp mo on lf sf rp rs rl) sz)) 0 0 (va_A (tn_ws h a1 a2 a3 a4 a5 a6 a7 cI cL cZ cnt onc fp sp mo on lf sf rp rs rl) sz) := by
  refine Met.ofW (cc := cX0_steps) (maxL := 3) (ret := (some .int)) (by decide) rfl ?_
  intro p e s m args below meth c s₁ B hml hv
  obtain ⟨rfl, hsz, hP, hK, hD0⟩ := hv
  have hx := B.exec
  have hb := B.bytes
  have hr := B.returns
  have hts := atoms_spec (ws := wsX0_steps) B.pre
  have hown : s.vm.findClass RX0 = some m.cls := findClass_of_methodNamed B.named
  have hlocks := B.notSynchronized
  subst hsz
  have hD := hD0.self (sz := s.heap.size)
  generalize hAe : va_A (tn_ws h a1 a2 a3 a4 a5 a6 a7 cI cL cZ cnt onc fp sp mo on lf sf rp rs rl) s.heap.size = A at hD ⊢
  have hA : ∀ q : Nat, s.heap.size ≤ q → A q := fun q h => by rw [← hAe]; exact Or.inr h
  have hS : va_S A s.heap s.heap [] := va_S.rf
  have hl := lv_entry ([.ref h, .int x, .int y]) (n := 3) (Nat.le_of_ble_eq_true rfl)
  rw [lg_entry_eq]
  generalize (lg_sl ([.ref h, .int x, .int y]) ++ List.replicate (3 - (lg_sl ([.ref h, .int x, .int y])).length) Slot.unset).toArray = ls at hl ⊢
  have hl : lv_has ls 3 [(0, .ref h), (1, .int x), (2, .int y)] := hl
  have kf27 := hts (.fieldLink RX0 27 "TimeNet" "stepsFrom" "[I") (by decide +kernel)
  have hin : ∀ w ∈ u_ws RX0 TX0 11, w ∈ wsX0_steps := by decide +kernel
  have hc := g.1
  refine lv_aload_n hx hb dX0_steps_0 rfl (lv_at hl 0 rfl) ?_
  refine lv_iload_n hx hb dX0_steps_1 rfl (lv_at hl 1 rfl) ?_
  refine lv_iload_n hx hb dX0_steps_2 rfl (lv_at hl 2 rfl) ?_
  have hF := tn_freeA hD hS hA
  refine va_calli (va_runV (As := [.int x, .int y]) (rest := []) ⟨hx, hb, hml, hown, hts⟩ (cX0_findPath_ok l dC dI h a1 a2 a3 a4 a5 a6 a7 cI cL cZ cnt onc fp sp mo on lf sf rp rs rl s.heap.size g x y) (cwV 2 hts gX0_steps_X0_findPath rfl rfl rfl (by decide +kernel) ⟨Nat.le_of_ble_eq_true rfl, Nat.le_of_ble_eq_true rfl⟩) (tn_preV hK hP hD (ci := 0) rfl 0 rfl) rfl rfl hl.1 rfl (lv_room (Nat.le_of_ble_eq_true rfl)) dX0_steps_3 ⟨Nat.le_of_ble_eq_true rfl, Nat.le_of_ble_eq_true rfl⟩) hS (fun q _ h => hF q h) hF (fun r_3 u_3 t H1 locs ht hvm hw_3 hB hz1 hk1 hS => ?_)
  obtain ⟨hP1, -, hD1⟩ := hB
  rw [ht] at hP1
  have hD := hD1.weaken (fun _ q _ hq => hF q.1 hq)
  clear hP hk1 hF hz1 ht hvm hD1
  generalize H1 = H at hP1 hS ⊢
  have hP := hP1
  clear hP1
  refine lv_if_eq (tgt := 18) hx hb dX0_steps_6 (by decide) (fun c_6 => ?_) (fun c_6 => ?_)
  · skip
    have hno : ∀ a b, a < 20 → b < 20 → x = nI a → y = nI b → ∀ n L, ¬ tn_wk (tn_E cnt fp sp mo on) n a b L := by
      intro a b ha hb2 ex ey
      rcases hw_3 with ⟨a', b', ha', hb', ex', ey', hu, q⟩ | ⟨q, _⟩
      · rcases q with ⟨_, q⟩ | ⟨q, _⟩
        · have e1 := (nI_eq (by omega) (by omega)).mp (ex.symm.trans ex')
          have e2 := (nI_eq (by omega) (by omega)).mp (ey.symm.trans ey')
          subst e1; subst e2
          exact tn_mok_n (tn_ms_ok g ok hb2 hu) ha q
        · exact absurd (q ▸ c_6 : nI 1 = 0) (by decide)
      · exact absurd ⟨ex, ey⟩ (q a b ha hb2)
    refine lv_iconst (v := (-1)) hx hb dX0_steps_18 (by decide) ?_
    exact W.iret (v := (-1)) hx hb hr (fun t ht hW => ⟨⟨(-1), (u_3.1, u_3.2), rfl, Or.inr ⟨hno, rfl⟩, by rw [ht]; exact hP, va_K.moved hW.alike hK, hD⟩, hS.F ht⟩) hS.2.2 dX0_steps_19
  · skip
    obtain ⟨a, b, ha, hb', ex, ey, hms, hz⟩ : ∃ a b, a < 20 ∧ b < 20 ∧ x = nI a ∧ y = nI b ∧ tn_mok (tn_E cnt fp sp mo on) b u_3 ∧ u_3.1 a ≠ tn_MX := by
      rcases hw_3 with ⟨a, b, ha, hb2, ex, ey, hu, q⟩ | ⟨_, q, _⟩
      · rcases q with ⟨q, _⟩ | ⟨_, q⟩
        · exact absurd (q : r_3 = 0) c_6
        · exact ⟨a, b, ha, hb2, ex, ey, tn_ms_ok g ok hb2 hu, q⟩
      · exact absurd (q : r_3 = 0) c_6
    subst ex
    subst ey
    obtain ⟨n0, hn0, hsn, hbe⟩ := tn_mok_f hms ha hz
    refine lv_aload_n hx hb dX0_steps_9 rfl (lv_at hl 0 rfl) ?_
    refine va_get (D := (dC, dI)) (ci := 0) (v := .ref a6) (C := RX0) (T := TX0) (N := 11) hx hb hts hin hown hK hP 0 rfl rfl 7 (by decide) kf27 (fun _ h9 => h9) rfl dX0_steps_10 ?_
    refine lv_iload_n hx hb dX0_steps_13 rfl (lv_at hl 1 rfl) ?_
    refine tn_iald (i := a) (v := nI n0) hx hb hK hP 6 0 rfl rfl (by omega) (by decide) hsn dX0_steps_14 ?_
    refine lv_goto (tgt := 19) hx hb dX0_steps_15 (by decide) ?_
    exact W.iret (v := nI n0) hx hb hr (fun t ht hW => ⟨⟨nI n0, (u_3.1, u_3.2), rfl, Or.inl ⟨a, b, _, n0, ha, hb', rfl, rfl, hbe, rfl⟩, by rw [ht]; exact hP, va_K.moved hW.alike hK, hD⟩, hS.F ht⟩) hS.2.2 dX0_steps_19
set_option maxHeartbeats 4000000 in
set_option maxRecDepth 100000 in
/-- path(x, y) -/
theorem cX0_path_ok (l : Launch) (dC : Nat → ClassId) (dI : Nat → Nat → Nat) (h a1 a2 a3 a4 a5 a6 a7 : Nat) (cI cL cZ : ClassId) (cnt onc : Nat) (fp sp : Nat → Nat) (mo : Nat → Int64) (on : Nat → Bool) (lf : Nat → Int64) (sf : Nat → Int32) (rp : Nat → Nat) (rs : Nat) (rl : Int64) (sz : Nat) (g : tn_good cnt fp sp mo) (ok : tn_ok (tn_E cnt fp sp mo on)) (x y : Int32) : Met l yX0_path wsX0_path ({ frames := 4, cells := 0, slots := 0, locals := 94 }) (va_Pc [.ref h, .int x, .int y] (tn_Pre dC dI (tn_tys cI cL cZ) (tn_ws h a1 a2 a3 a4 a5 a6 a7 cI cL cZ cnt onc fp sp mo on lf sf rp rs rl) sz)) (va_Qi (S := tn_D × (Nat → Nat) × Nat × Int64) (fun r u => sp_path (tn_E cnt fp sp mo on) x y r rp rs rl u.2.1 u.2.2.1 u.2.2.2) (fun u t => tn_at dC dI (tn_tys cI cL cZ) (va_A (tn_ws h a1 a2 a3 a4 a5 a6 a7 cI cL cZ cnt onc fp sp mo on lf sf rp rs rl) sz) (tn_ws h a1 a2 a3 a4 a5 a6 a7 cI cL cZ cnt onc fp sp mo on u.1.1 u.1.2 u.2.1 u.2.2.1 u.2.2.2) t) (va_A (tn_ws h a1 a2 a3 a4 a5 a6 a7 cI cL cZ cnt onc fp sp mo on lf sf rp rs rl) sz)) 0 0 (va_A (tn_ws h a1 a2 a3 a4 a5 a6 a7 cI cL cZ cnt onc fp sp mo on lf sf rp rs rl) sz) := by
  refine Met.ofW (cc := cX0_path) (maxL := 3) (ret := (some .int)) (by decide) rfl ?_
  intro p e s m args below meth c s₁ B hml hv
  obtain ⟨rfl, hsz, hP, hK, hD0⟩ := hv
  have hx := B.exec
  have hb := B.bytes
  have hr := B.returns
  have hts := atoms_spec (ws := wsX0_path) B.pre
  have hown : s.vm.findClass RX0 = some m.cls := findClass_of_methodNamed B.named
  have hlocks := B.notSynchronized
  subst hsz
  have hD := hD0.self (sz := s.heap.size)
  generalize hAe : va_A (tn_ws h a1 a2 a3 a4 a5 a6 a7 cI cL cZ cnt onc fp sp mo on lf sf rp rs rl) s.heap.size = A at hD ⊢
  have hA : ∀ q : Nat, s.heap.size ≤ q → A q := fun q h => by rw [← hAe]; exact Or.inr h
  have hS : va_S A s.heap s.heap [] := va_S.rf
  have hl := lv_entry ([.ref h, .int x, .int y]) (n := 3) (Nat.le_of_ble_eq_true rfl)
  rw [lg_entry_eq]
  generalize (lg_sl ([.ref h, .int x, .int y]) ++ List.replicate (3 - (lg_sl ([.ref h, .int x, .int y])).length) Slot.unset).toArray = ls at hl ⊢
  have hl : lv_has ls 3 [(0, .ref h), (1, .int x), (2, .int y)] := hl
  have kf65 := hts (.fieldLink RX0 65 "TimeNet" "rowSize" "I") (by decide +kernel)
  have kf24 := hts (.fieldLink RX0 24 "TimeNet" "lengthFrom" "[J") (by decide +kernel)
  have kf71 := hts (.fieldLink RX0 71 "TimeNet" "rowLength" "J") (by decide +kernel)
  have hin : ∀ w ∈ u_ws RX0 TX0 11, w ∈ wsX0_path := by decide +kernel
  have hc := g.1
  refine lv_aload_n hx hb dX0_path_0 rfl (lv_at hl 0 rfl) ?_
  refine lv_iload_n hx hb dX0_path_1 rfl (lv_at hl 1 rfl) ?_
  refine lv_iload_n hx hb dX0_path_2 rfl (lv_at hl 2 rfl) ?_
  have hF := tn_freeA hD hS hA
  refine va_calli (va_runV (As := [.int x, .int y]) (rest := []) ⟨hx, hb, hml, hown, hts⟩ (cX0_findPath_ok l dC dI h a1 a2 a3 a4 a5 a6 a7 cI cL cZ cnt onc fp sp mo on lf sf rp rs rl s.heap.size g x y) (cwV 2 hts gX0_path_X0_findPath rfl rfl rfl (by decide +kernel) ⟨Nat.le_of_ble_eq_true rfl, Nat.le_of_ble_eq_true rfl⟩) (tn_preV hK hP hD (ci := 0) rfl 0 rfl) rfl rfl hl.1 rfl (lv_room (Nat.le_of_ble_eq_true rfl)) dX0_path_3 ⟨Nat.le_of_ble_eq_true rfl, Nat.le_of_ble_eq_true rfl⟩) hS (fun q _ h => hF q h) hF (fun r_3 u_3 t H1 locs ht hvm hw_3 hB hz1 hk1 hS => ?_)
  obtain ⟨hP1, -, hD1⟩ := hB
  rw [ht] at hP1
  have hD := hD1.weaken (fun _ q _ hq => hF q.1 hq)
  clear hP hk1 hF hz1 ht hvm hD1
  generalize H1 = H at hP1 hS ⊢
  have hP := hP1
  clear hP1
  refine lv_if_ne (tgt := 11) hx hb dX0_path_6 (by decide) (fun c_6 => ?_) (fun c_6 => ?_)
  · skip
    obtain ⟨a, b, ha, hb', ex, ey, hms, hz⟩ : ∃ a b, a < 20 ∧ b < 20 ∧ x = nI a ∧ y = nI b ∧ tn_mok (tn_E cnt fp sp mo on) b u_3 ∧ u_3.1 a ≠ tn_MX := by
      rcases hw_3 with ⟨a, b, ha, hb2, ex, ey, hu, q⟩ | ⟨_, q, _⟩
      · rcases q with ⟨q, _⟩ | ⟨_, q⟩
        · exact absurd (q : r_3 = 0) c_6
        · exact ⟨a, b, ha, hb2, ex, ey, tn_ms_ok g ok hb2 hu, q⟩
      · exact absurd (q : r_3 = 0) c_6
    subst ex
    subst ey
    obtain ⟨n0, hn0, hsn, hbe⟩ := tn_mok_f hms ha hz
    refine lv_aload_n hx hb dX0_path_11 rfl (lv_at hl 0 rfl) ?_
    refine lv_iconst (v := nI 0) hx hb dX0_path_12 (by decide) ?_
    refine va_put (D := (dC, dI)) (ci := 0) (v := .int (nI 0)) (ty := .int) (C := RX0) (T := TX0) (N := 11) hx hb hts hin tyX0 tyX0_ok nmX0 hown hK hP hD hS 0 rfl rfl 9 (by decide) kf65 (fun _ h9 => h9) rfl (by decide +kernel) rfl rfl (Nat.le_of_ble_eq_true rfl) dX0_path_13 (fun H locs hP hD hS => ?_)
    have hP : va_P (dC, dI) vwCl (tn_ws h a1 a2 a3 a4 a5 a6 a7 cI cL cZ cnt onc fp sp mo on u_3.1 u_3.2 rp 0 rl) H := hP
    have hD : va_D A (tn_ws h a1 a2 a3 a4 a5 a6 a7 cI cL cZ cnt onc fp sp mo on u_3.1 u_3.2 rp 0 rl) := hD
    refine lv_aload_n hx hb dX0_path_16 rfl (lv_at hl 0 rfl) ?_
    refine lv_iload_n hx hb dX0_path_17 rfl (lv_at hl 1 rfl) ?_
    have hF := tn_freeA hD hS hA
    refine va_callv (va_runV (As := [.int (nI a)]) (rest := []) ⟨hx, hb, hml, hown, hts⟩ (cX0_appendBestFrom_ok l dC dI h a1 a2 a3 a4 a5 a6 a7 cI cL cZ cnt onc fp sp mo on u_3.1 u_3.2 rp 0 rl H.size g a ha n0 hsn (by omega)) (cwV 1 hts gX0_path_X0_appendBestFrom rfl rfl rfl (by decide +kernel) ⟨Nat.le_of_ble_eq_true rfl, Nat.le_of_ble_eq_true rfl⟩) (tn_preV hK hP hD (ci := 0) rfl 0 rfl) rfl rfl hl.1 rfl (lv_room (Nat.le_of_ble_eq_true rfl)) dX0_path_18 ⟨Nat.le_of_ble_eq_true rfl, Nat.le_of_ble_eq_true rfl⟩) hS (fun q _ h => hF q h) hF (fun u_18 t H1 locs ht hvm hw_18 hB hz1 hk1 hS => ?_)
    obtain ⟨hP1, -, hD1⟩ := hB
    rw [ht] at hP1
    have hD := hD1.weaken (fun _ q _ hq => hF q.1 hq)
    clear hP hk1 hF hz1 ht hvm hD1
    generalize H1 = H at hP1 hS ⊢
    have hP := hP1
    clear hP1
    refine lv_aload_n hx hb dX0_path_21 rfl (lv_at hl 0 rfl) ?_
    refine lv_aload_n hx hb dX0_path_22 rfl (lv_at hl 0 rfl) ?_
    refine va_get (D := (dC, dI)) (ci := 0) (v := .ref a5) (C := RX0) (T := TX0) (N := 11) hx hb hts hin hown hK hP 0 rfl rfl 6 (by decide) kf24 (fun _ h9 => h9) rfl dX0_path_23 ?_
    refine lv_iload_n hx hb dX0_path_26 rfl (lv_at hl 1 rfl) ?_
    refine tn_lald (i := a) (v := u_3.1 a) hx hb hK hP 5 1 rfl rfl (by omega) (by decide) rfl dX0_path_27 ?_
    refine va_put (D := (dC, dI)) (ci := 0) (v := .long (u_3.1 a)) (ty := .long) (C := RX0) (T := TX0) (N := 11) hx hb hts hin tyX0 tyX0_ok nmX0 hown hK hP hD hS 0 rfl rfl 10 (by decide) kf71 (fun _ h9 => h9) rfl (by decide +kernel) rfl rfl (Nat.le_of_ble_eq_true rfl) dX0_path_28 (fun H locs hP hD hS => ?_)
    have hP : va_P (dC, dI) vwCl (tn_ws h a1 a2 a3 a4 a5 a6 a7 cI cL cZ cnt onc fp sp mo on u_3.1 u_3.2 u_18.1 u_18.2 (u_3.1 a)) H := hP
    have hD : va_D A (tn_ws h a1 a2 a3 a4 a5 a6 a7 cI cL cZ cnt onc fp sp mo on u_3.1 u_3.2 u_18.1 u_18.2 (u_3.1 a)) := hD
    refine lv_aload_n hx hb dX0_path_31 rfl (lv_at hl 0 rfl) ?_
    refine va_get (D := (dC, dI)) (ci := 0) (v := .int (nI u_18.2)) (C := RX0) (T := TX0) (N := 11) hx hb hts hin hown hK hP 0 rfl rfl 9 (by decide) kf65 (fun _ h9 => h9) rfl dX0_path_32 ?_
    exact W.iret (v := nI u_18.2) hx hb hr (fun t ht hW => ⟨⟨nI u_18.2, ((u_3.1, u_3.2), u_18.1, u_18.2, u_3.1 a), rfl, tn_path_yes g ha hb' hms hn0 hbe rp rs rl hw_18, by rw [ht]; exact hP, va_K.moved hW.alike hK, hD⟩, hS.F ht⟩) hS.2.2 dX0_path_35
  · skip
    have hno : ∀ a b, a < 20 → b < 20 → x = nI a → y = nI b → ∀ n L, ¬ tn_wk (tn_E cnt fp sp mo on) n a b L := by
      intro a b ha hb2 ex ey
      rcases hw_3 with ⟨a', b', ha', hb', ex', ey', hu, q⟩ | ⟨q, _⟩
      · rcases q with ⟨_, q⟩ | ⟨q, _⟩
        · have e1 := (nI_eq (by omega) (by omega)).mp (ex.symm.trans ex')
          have e2 := (nI_eq (by omega) (by omega)).mp (ey.symm.trans ey')
          subst e1; subst e2
          exact tn_mok_n (tn_ms_ok g ok hb2 hu) ha q
        · exact absurd (q ▸ c_6 : nI 1 = 0) (by decide)
      · exact absurd ⟨ex, ey⟩ (q a b ha hb2)
    refine lv_iconst (v := (-1)) hx hb dX0_path_9 (by decide) ?_
    exact W.iret (v := (-1)) hx hb hr (fun t ht hW => ⟨⟨(-1), ((u_3.1, u_3.2), rp, rs, rl), rfl, Or.inr ⟨hno, rfl, rfl, rfl, rfl⟩, by rw [ht]; exact hP, va_K.moved hW.alike hK, hD⟩, hS.F ht⟩) hS.2.2 dX0_path_10
set_option maxHeartbeats 4000000 in
set_option maxRecDepth 100000 in
/-- row() -/
theorem cX0_row_ok (l : Launch) (dC : Nat → ClassId) (dI : Nat → Nat → Nat) (h a1 a2 a3 a4 a5 a6 a7 : Nat) (cI cL cZ : ClassId) (cnt onc : Nat) (fp sp : Nat → Nat) (mo : Nat → Int64) (on : Nat → Bool) (lf : Nat → Int64) (sf : Nat → Int32) (rp : Nat → Nat) (rs : Nat) (rl : Int64) (sz : Nat)  : Met l yX0_row wsX0_row ({ frames := 0, cells := 0, slots := 0, locals := 0 }) (va_Pc [.ref h] (tn_Pre dC dI (tn_tys cI cL cZ) (tn_ws h a1 a2 a3 a4 a5 a6 a7 cI cL cZ cnt onc fp sp mo on lf sf rp rs rl) sz)) (va_Qi (S := Unit) (fun r _ => r = nI rs) (fun u t => tn_at dC dI (tn_tys cI cL cZ) (va_A (tn_ws h a1 a2 a3 a4 a5 a6 a7 cI cL cZ cnt onc fp sp mo on lf sf rp rs rl) sz) (tn_ws h a1 a2 a3 a4 a5 a6 a7 cI cL cZ cnt onc fp sp mo on lf sf rp rs rl) t) (va_A (tn_ws h a1 a2 a3 a4 a5 a6 a7 cI cL cZ cnt onc fp sp mo on lf sf rp rs rl) sz)) 0 0 (va_A (tn_ws h a1 a2 a3 a4 a5 a6 a7 cI cL cZ cnt onc fp sp mo on lf sf rp rs rl) sz) := by
  refine Met.ofW (cc := cX0_row) (maxL := 1) (ret := (some .int)) (by decide) rfl ?_
  intro p e s m args below meth c s₁ B hml hv
  obtain ⟨rfl, hsz, hP, hK, hD0⟩ := hv
  have hx := B.exec
  have hb := B.bytes
  have hr := B.returns
  have hts := atoms_spec (ws := wsX0_row) B.pre
  have hown : s.vm.findClass RX0 = some m.cls := findClass_of_methodNamed B.named
  have hlocks := B.notSynchronized
  subst hsz
  have hD := hD0.self (sz := s.heap.size)
  generalize hAe : va_A (tn_ws h a1 a2 a3 a4 a5 a6 a7 cI cL cZ cnt onc fp sp mo on lf sf rp rs rl) s.heap.size = A at hD ⊢
  have hA : ∀ q : Nat, s.heap.size ≤ q → A q := fun q h => by rw [← hAe]; exact Or.inr h
  have hS : va_S A s.heap s.heap [] := va_S.rf
  have hl := lv_entry ([.ref h]) (n := 1) (Nat.le_of_ble_eq_true rfl)
  rw [lg_entry_eq]
  generalize (lg_sl ([.ref h]) ++ List.replicate (1 - (lg_sl ([.ref h])).length) Slot.unset).toArray = ls at hl ⊢
  have hl : lv_has ls 1 [(0, .ref h)] := hl
  have kf65 := hts (.fieldLink RX0 65 "TimeNet" "rowSize" "I") (by decide +kernel)
  have hin : ∀ w ∈ u_ws RX0 TX0 11, w ∈ wsX0_row := by decide +kernel
  refine lv_aload_n hx hb dX0_row_0 rfl (lv_at hl 0 rfl) ?_
  refine va_get (D := (dC, dI)) (ci := 0) (v := .int (nI rs)) (C := RX0) (T := TX0) (N := 11) hx hb hts hin hown hK hP 0 rfl rfl 9 (by decide) kf65 (fun _ h9 => h9) rfl dX0_row_1 ?_
  exact W.iret (v := nI rs) hx hb hr (fun t ht hW => ⟨⟨nI rs, (), rfl, rfl, by rw [ht]; exact hP, va_K.moved hW.alike hK, hD⟩, hS.F ht⟩) hS.2.2 dX0_row_4
set_option maxHeartbeats 4000000 in
set_option maxRecDepth 100000 in
/-- length() -/
theorem cX0_length_ok (l : Launch) (dC : Nat → ClassId) (dI : Nat → Nat → Nat) (h a1 a2 a3 a4 a5 a6 a7 : Nat) (cI cL cZ : ClassId) (cnt onc : Nat) (fp sp : Nat → Nat) (mo : Nat → Int64) (on : Nat → Bool) (lf : Nat → Int64) (sf : Nat → Int32) (rp : Nat → Nat) (rs : Nat) (rl : Int64) (sz : Nat)  : Met l yX0_length wsX0_length ({ frames := 0, cells := 0, slots := 0, locals := 0 }) (va_Pc [.ref h] (tn_Pre dC dI (tn_tys cI cL cZ) (tn_ws h a1 a2 a3 a4 a5 a6 a7 cI cL cZ cnt onc fp sp mo on lf sf rp rs rl) sz)) (va_Ql (S := Unit) (fun r _ => r = rl) (fun u t => tn_at dC dI (tn_tys cI cL cZ) (va_A (tn_ws h a1 a2 a3 a4 a5 a6 a7 cI cL cZ cnt onc fp sp mo on lf sf rp rs rl) sz) (tn_ws h a1 a2 a3 a4 a5 a6 a7 cI cL cZ cnt onc fp sp mo on lf sf rp rs rl) t) (va_A (tn_ws h a1 a2 a3 a4 a5 a6 a7 cI cL cZ cnt onc fp sp mo on lf sf rp rs rl) sz)) 0 0 (va_A (tn_ws h a1 a2 a3 a4 a5 a6 a7 cI cL cZ cnt onc fp sp mo on lf sf rp rs rl) sz) := by
  refine Met.ofW (cc := cX0_length) (maxL := 1) (ret := (some .long)) (by decide) rfl ?_
  intro p e s m args below meth c s₁ B hml hv
  obtain ⟨rfl, hsz, hP, hK, hD0⟩ := hv
  have hx := B.exec
  have hb := B.bytes
  have hr := B.returns
  have hts := atoms_spec (ws := wsX0_length) B.pre
  have hown : s.vm.findClass RX0 = some m.cls := findClass_of_methodNamed B.named
  have hlocks := B.notSynchronized
  subst hsz
  have hD := hD0.self (sz := s.heap.size)
  generalize hAe : va_A (tn_ws h a1 a2 a3 a4 a5 a6 a7 cI cL cZ cnt onc fp sp mo on lf sf rp rs rl) s.heap.size = A at hD ⊢
  have hA : ∀ q : Nat, s.heap.size ≤ q → A q := fun q h => by rw [← hAe]; exact Or.inr h
  have hS : va_S A s.heap s.heap [] := va_S.rf
  have hl := lv_entry ([.ref h]) (n := 1) (Nat.le_of_ble_eq_true rfl)
  rw [lg_entry_eq]
  generalize (lg_sl ([.ref h]) ++ List.replicate (1 - (lg_sl ([.ref h])).length) Slot.unset).toArray = ls at hl ⊢
  have hl : lv_has ls 1 [(0, .ref h)] := hl
  have kf71 := hts (.fieldLink RX0 71 "TimeNet" "rowLength" "J") (by decide +kernel)
  have hin : ∀ w ∈ u_ws RX0 TX0 11, w ∈ wsX0_length := by decide +kernel
  refine lv_aload_n hx hb dX0_length_0 rfl (lv_at hl 0 rfl) ?_
  refine va_get (D := (dC, dI)) (ci := 0) (v := .long rl) (C := RX0) (T := TX0) (N := 11) hx hb hts hin hown hK hP 0 rfl rfl 10 (by decide) kf71 (fun _ h9 => h9) rfl dX0_length_1 ?_
  exact W.lret (v := rl) hx hb hr (fun t ht hW => ⟨⟨rl, (), rfl, rfl, by rw [ht]; exact hP, va_K.moved hW.alike hK, hD⟩, hS.F ht⟩) hS.2.2 dX0_length_4
set_option maxHeartbeats 4000000 in
set_option maxRecDepth 100000 in
/-- alive() -/
theorem cX0_alive_ok (l : Launch) (dC : Nat → ClassId) (dI : Nat → Nat → Nat) (h a1 a2 a3 a4 a5 a6 a7 : Nat) (cI cL cZ : ClassId) (cnt onc : Nat) (fp sp : Nat → Nat) (mo : Nat → Int64) (on : Nat → Bool) (lf : Nat → Int64) (sf : Nat → Int32) (rp : Nat → Nat) (rs : Nat) (rl : Int64) (sz : Nat)  : Met l yX0_alive wsX0_alive ({ frames := 0, cells := 0, slots := 0, locals := 0 }) (va_Pc [.ref h] (tn_Pre dC dI (tn_tys cI cL cZ) (tn_ws h a1 a2 a3 a4 a5 a6 a7 cI cL cZ cnt onc fp sp mo on lf sf rp rs rl) sz)) (va_Qi (S := Unit) (fun r _ => r = nI onc) (fun u t => tn_at dC dI (tn_tys cI cL cZ) (va_A (tn_ws h a1 a2 a3 a4 a5 a6 a7 cI cL cZ cnt onc fp sp mo on lf sf rp rs rl) sz) (tn_ws h a1 a2 a3 a4 a5 a6 a7 cI cL cZ cnt onc fp sp mo on lf sf rp rs rl) t) (va_A (tn_ws h a1 a2 a3 a4 a5 a6 a7 cI cL cZ cnt onc fp sp mo on lf sf rp rs rl) sz)) 0 0 (va_A (tn_ws h a1 a2 a3 a4 a5 a6 a7 cI cL cZ cnt onc fp sp mo on lf sf rp rs rl) sz) := by
  refine Met.ofW (cc := cX0_alive) (maxL := 1) (ret := (some .int)) (by decide) rfl ?_
  intro p e s m args below meth c s₁ B hml hv
  obtain ⟨rfl, hsz, hP, hK, hD0⟩ := hv
  have hx := B.exec
  have hb := B.bytes
  have hr := B.returns
  have hts := atoms_spec (ws := wsX0_alive) B.pre
  have hown : s.vm.findClass RX0 = some m.cls := findClass_of_methodNamed B.named
  have hlocks := B.notSynchronized
  subst hsz
  have hD := hD0.self (sz := s.heap.size)
  generalize hAe : va_A (tn_ws h a1 a2 a3 a4 a5 a6 a7 cI cL cZ cnt onc fp sp mo on lf sf rp rs rl) s.heap.size = A at hD ⊢
  have hA : ∀ q : Nat, s.heap.size ≤ q → A q := fun q h => by rw [← hAe]; exact Or.inr h
  have hS : va_S A s.heap s.heap [] := va_S.rf
  have hl := lv_entry ([.ref h]) (n := 1) (Nat.le_of_ble_eq_true rfl)
  rw [lg_entry_eq]
  generalize (lg_sl ([.ref h]) ++ List.replicate (1 - (lg_sl ([.ref h])).length) Slot.unset).toArray = ls at hl ⊢
  have hl : lv_has ls 1 [(0, .ref h)] := hl
  have kf44 := hts (.fieldLink RX0 44 "TimeNet" "onCount" "I") (by decide +kernel)
  have hin : ∀ w ∈ u_ws RX0 TX0 11, w ∈ wsX0_alive := by decide +kernel
  refine lv_aload_n hx hb dX0_alive_0 rfl (lv_at hl 0 rfl) ?_
  refine va_get (D := (dC, dI)) (ci := 0) (v := .int (nI onc)) (C := RX0) (T := TX0) (N := 11) hx hb hts hin hown hK hP 0 rfl rfl 5 (by decide) kf44 (fun _ h9 => h9) rfl dX0_alive_1 ?_
  exact W.iret (v := nI onc) hx hb hr (fun t ht hW => ⟨⟨nI onc, (), rfl, rfl, by rw [ht]; exact hP, va_K.moved hW.alike hK, hD⟩, hS.F ht⟩) hS.2.2 dX0_alive_4
set_option maxHeartbeats 4000000 in
set_option maxRecDepth 100000 in
/-- rowAt(x) -/
theorem cX0_rowAt_ok (l : Launch) (dC : Nat → ClassId) (dI : Nat → Nat → Nat) (h a1 a2 a3 a4 a5 a6 a7 : Nat) (cI cL cZ : ClassId) (cnt onc : Nat) (fp sp : Nat → Nat) (mo : Nat → Int64) (on : Nat → Bool) (lf : Nat → Int64) (sf : Nat → Int32) (rp : Nat → Nat) (rs : Nat) (rl : Int64) (sz : Nat) (hrs : rs ≤ 21) (x : Int32) : Met l yX0_rowAt wsX0_rowAt ({ frames := 0, cells := 0, slots := 0, locals := 0 }) (va_Pc [.ref h, .int x] (tn_Pre dC dI (tn_tys cI cL cZ) (tn_ws h a1 a2 a3 a4 a5 a6 a7 cI cL cZ cnt onc fp sp mo on lf sf rp rs rl) sz)) (va_Qi (S := Unit) (fun r _ => sp_rowAt rp rs x r) (fun u t => tn_at dC dI (tn_tys cI cL cZ) (va_A (tn_ws h a1 a2 a3 a4 a5 a6 a7 cI cL cZ cnt onc fp sp mo on lf sf rp rs rl) sz) (tn_ws h a1 a2 a3 a4 a5 a6 a7 cI cL cZ cnt onc fp sp mo on lf sf rp rs rl) t) (va_A (tn_ws h a1 a2 a3 a4 a5 a6 a7 cI cL cZ cnt onc fp sp mo on lf sf rp rs rl) sz)) 0 0 (va_A (tn_ws h a1 a2 a3 a4 a5 a6 a7 cI cL cZ cnt onc fp sp mo on lf sf rp rs rl) sz) := by
  refine Met.ofW (cc := cX0_rowAt) (maxL := 2) (ret := (some .int)) (by decide) rfl ?_
  intro p e s m args below meth c s₁ B hml hv
  obtain ⟨rfl, hsz, hP, hK, hD0⟩ := hv
  have hx := B.exec
  have hb := B.bytes
  have hr := B.returns
  have hts := atoms_spec (ws := wsX0_rowAt) B.pre
  have hown : s.vm.findClass RX0 = some m.cls := findClass_of_methodNamed B.named
  have hlocks := B.notSynchronized
  subst hsz
  have hD := hD0.self (sz := s.heap.size)
  generalize hAe : va_A (tn_ws h a1 a2 a3 a4 a5 a6 a7 cI cL cZ cnt onc fp sp mo on lf sf rp rs rl) s.heap.size = A at hD ⊢
  have hA : ∀ q : Nat, s.heap.size ≤ q → A q := fun q h => by rw [← hAe]; exact Or.inr h
  have hS : va_S A s.heap s.heap [] := va_S.rf
  have hl := lv_entry ([.ref h, .int x]) (n := 2) (Nat.le_of_ble_eq_true rfl)
  rw [lg_entry_eq]
  generalize (lg_sl ([.ref h, .int x]) ++ List.replicate (2 - (lg_sl ([.ref h, .int x])).length) Slot.unset).toArray = ls at hl ⊢
  have hl : lv_has ls 2 [(0, .ref h), (1, .int x)] := hl
  have kf65 := hts (.fieldLink RX0 65 "TimeNet" "rowSize" "I") (by decide +kernel)
  have kf30 := hts (.fieldLink RX0 30 "TimeNet" "rowPoints" "[I") (by decide +kernel)
  have hin : ∀ w ∈ u_ws RX0 TX0 11, w ∈ wsX0_rowAt := by decide +kernel
  refine lv_iload_n hx hb dX0_rowAt_0 rfl (lv_at hl 1 rfl) ?_
  refine lv_if_lt (tgt := 21) hx hb dX0_rowAt_1 (by decide) (fun c_1 => ?_) (fun c_1 => ?_)
  · skip
    refine lv_iconst (v := (-1)) hx hb dX0_rowAt_21 (by decide) ?_
    exact W.iret (v := (-1)) hx hb hr (fun t ht hW => ⟨⟨(-1), (), rfl, Or.inr ⟨tn_ix2 c_1 (by omega), rfl⟩, by rw [ht]; exact hP, va_K.moved hW.alike hK, hD⟩, hS.F ht⟩) hS.2.2 dX0_rowAt_22
  · skip
    refine lv_iload_n hx hb dX0_rowAt_4 rfl (lv_at hl 1 rfl) ?_
    refine lv_aload_n hx hb dX0_rowAt_5 rfl (lv_at hl 0 rfl) ?_
    refine va_get (D := (dC, dI)) (ci := 0) (v := .int (nI rs)) (C := RX0) (T := TX0) (N := 11) hx hb hts hin hown hK hP 0 rfl rfl 9 (by decide) kf65 (fun _ h9 => h9) rfl dX0_rowAt_6 ?_
    refine lv_icmp_ge (tgt := 21) hx hb dX0_rowAt_9 (by decide) (fun c_9 => ?_) (fun c_9 => ?_)
    · skip
      refine lv_iconst (v := (-1)) hx hb dX0_rowAt_21 (by decide) ?_
      exact W.iret (v := (-1)) hx hb hr (fun t ht hW => ⟨⟨(-1), (), rfl, Or.inr ⟨tn_ix3 c_9 (by omega), rfl⟩, by rw [ht]; exact hP, va_K.moved hW.alike hK, hD⟩, hS.F ht⟩) hS.2.2 dX0_rowAt_22
    · skip
      obtain ⟨k, hk, ex⟩ := tn_ix1 c_1 c_9 (by omega)
      subst ex
      refine lv_aload_n hx hb dX0_rowAt_12 rfl (lv_at hl 0 rfl) ?_
      refine va_get (D := (dC, dI)) (ci := 0) (v := .ref a7) (C := RX0) (T := TX0) (N := 11) hx hb hts hin hown hK hP 0 rfl rfl 8 (by decide) kf30 (fun _ h9 => h9) rfl dX0_rowAt_13 ?_
      refine lv_iload_n hx hb dX0_rowAt_16 rfl (lv_at hl 1 rfl) ?_
      refine tn_iald (i := k) (v := nI (rp k)) hx hb hK hP 7 0 rfl rfl (by omega) (by decide) rfl dX0_rowAt_17 ?_
      refine lv_goto (tgt := 22) hx hb dX0_rowAt_18 (by decide) ?_
      exact W.iret (v := nI (rp k)) hx hb hr (fun t ht hW => ⟨⟨nI (rp k), (), rfl, Or.inl ⟨k, hk, rfl, rfl⟩, by rw [ht]; exact hP, va_K.moved hW.alike hK, hD⟩, hS.F ht⟩) hS.2.2 dX0_rowAt_22
set_option maxHeartbeats 4000000 in
set_option maxRecDepth 100000 in
/-- slack(x) -/
theorem cX0_slack_ok (l : Launch) (dC : Nat → ClassId) (dI : Nat → Nat → Nat) (h a1 a2 a3 a4 a5 a6 a7 : Nat) (cI cL cZ : ClassId) (cnt onc : Nat) (fp sp : Nat → Nat) (mo : Nat → Int64) (on : Nat → Bool) (lf : Nat → Int64) (sf : Nat → Int32) (rp : Nat → Nat) (rs : Nat) (rl : Int64) (sz : Nat) (g : tn_good cnt fp sp mo) (ok : tn_ok (tn_E cnt fp sp mo on)) (x : Int32) : Met l yX0_slack wsX0_slack ({ frames := 3, cells := 0, slots := 0, locals := 72 }) (va_Pc [.ref h, .int x] (tn_Pre dC dI (tn_tys cI cL cZ) (tn_ws h a1 a2 a3 a4 a5 a6 a7 cI cL cZ cnt onc fp sp mo on lf sf rp rs rl) sz)) (va_Ql (S := tn_D) (fun r _ => sp_slack cnt fp sp mo on x r) (fun u t => tn_at dC dI (tn_tys cI cL cZ) (va_A (tn_ws h a1 a2 a3 a4 a5 a6 a7 cI cL cZ cnt onc fp sp mo on lf sf rp rs rl) sz) (tn_ws h a1 a2 a3 a4 a5 a6 a7 cI cL cZ cnt onc fp sp mo on u.1 u.2 rp rs rl) t) (va_A (tn_ws h a1 a2 a3 a4 a5 a6 a7 cI cL cZ cnt onc fp sp mo on lf sf rp rs rl) sz)) 0 0 (va_A (tn_ws h a1 a2 a3 a4 a5 a6 a7 cI cL cZ cnt onc fp sp mo on lf sf rp rs rl) sz) := by
  refine Met.ofW (cc := cX0_slack) (maxL := 2) (ret := (some .long)) (by decide) rfl ?_
  intro p e s m args below meth c s₁ B hml hv
  obtain ⟨rfl, hsz, hP, hK, hD0⟩ := hv
  have hx := B.exec
  have hb := B.bytes
  have hr := B.returns
  have hts := atoms_spec (ws := wsX0_slack) B.pre
  have hown : s.vm.findClass RX0 = some m.cls := findClass_of_methodNamed B.named
  have hlocks := B.notSynchronized
  subst hsz
  have hD := hD0.self (sz := s.heap.size)
  generalize hAe : va_A (tn_ws h a1 a2 a3 a4 a5 a6 a7 cI cL cZ cnt onc fp sp mo on lf sf rp rs rl) s.heap.size = A at hD ⊢
  have hA : ∀ q : Nat, s.heap.size ≤ q → A q := fun q h => by rw [← hAe]; exact Or.inr h
  have hS : va_S A s.heap s.heap [] := va_S.rf
  have hl := lv_entry ([.ref h, .int x]) (n := 2) (Nat.le_of_ble_eq_true rfl)
  rw [lg_entry_eq]
  generalize (lg_sl ([.ref h, .int x]) ++ List.replicate (2 - (lg_sl ([.ref h, .int x])).length) Slot.unset).toArray = ls at hl ⊢
  have hl : lv_has ls 2 [(0, .ref h), (1, .int x)] := hl
  have kf20 := hts (.fieldLink RX0 20 "TimeNet" "isOn" "[Z") (by decide +kernel)
  have kc79 := hts (.constantLong RX0 79 (-1)) (by decide +kernel)
  have kf13 := hts (.fieldLink RX0 13 "TimeNet" "secondPoint" "[I") (by decide +kernel)
  have kf16 := hts (.fieldLink RX0 16 "TimeNet" "most" "[J") (by decide +kernel)
  have kf24 := hts (.fieldLink RX0 24 "TimeNet" "lengthFrom" "[J") (by decide +kernel)
  have kf9 := hts (.fieldLink RX0 9 "TimeNet" "firstPoint" "[I") (by decide +kernel)
  have hin : ∀ w ∈ u_ws RX0 TX0 11, w ∈ wsX0_slack := by decide +kernel
  have hc := g.1
  refine lv_aload_n hx hb dX0_slack_0 rfl (lv_at hl 0 rfl) ?_
  refine lv_iload_n hx hb dX0_slack_1 rfl (lv_at hl 1 rfl) ?_
  have hF := tn_freeA hD hS hA
  refine va_calli (va_runV (As := [.int x]) (rest := []) ⟨hx, hb, hml, hown, hts⟩ (cX0_isNumber_ok l dC dI h a1 a2 a3 a4 a5 a6 a7 cI cL cZ cnt onc fp sp mo on lf sf rp rs rl s.heap.size hc x) (cwV 1 hts gX0_slack_X0_isNumber rfl rfl rfl (by decide +kernel) ⟨Nat.le_of_ble_eq_true rfl, Nat.le_of_ble_eq_true rfl⟩) (tn_preV hK hP hD (ci := 0) rfl 0 rfl) rfl rfl hl.1 rfl (lv_room (Nat.le_of_ble_eq_true rfl)) dX0_slack_2 ⟨Nat.le_of_ble_eq_true rfl, Nat.le_of_ble_eq_true rfl⟩) hS (fun q _ h => hF q h) hF (fun r_2 u_2 t H1 locs ht hvm hw_2 hB hz1 hk1 hS => ?_)
  obtain ⟨hP1, -, hD1⟩ := hB
  rw [ht] at hP1
  have hD := hD1.weaken (fun _ q _ hq => hF q.1 hq)
  clear hP hk1 hF hz1 ht hvm hD1
  generalize H1 = H at hP1 hS ⊢
  have hP := hP1
  clear hP1
  refine lv_if_eq (tgt := 17) hx hb dX0_slack_5 (by decide) (fun c_5 => ?_) (fun c_5 => ?_)
  · skip
    have hn_2 : ∀ j, j < cnt → x ≠ nI j := by
      rcases hw_2 with ⟨q, _⟩ | ⟨_, q⟩
      · exact absurd (q ▸ c_5 : nI 1 = 0) (by decide)
      · exact q
    refine lv_ldc2 (v := (-1)) hx hb hown kc79 dX0_slack_17 ?_
    exact W.lret (v := (-1)) hx hb hr (fun t ht hW => ⟨⟨(-1), (lf, sf), rfl, Or.inr ⟨fun k hk e => absurd e (hn_2 k hk), rfl⟩, by rw [ht]; exact hP, va_K.moved hW.alike hK, hD⟩, hS.F ht⟩) hS.2.2 dX0_slack_20
  · skip
    obtain ⟨k, hk, ex⟩ : ∃ j, j < cnt ∧ x = nI j := by
      rcases hw_2 with ⟨_, q⟩ | ⟨q, _⟩
      · exact q
      · exact absurd (q : r_2 = 0) c_5
    subst ex
    refine lv_aload_n hx hb dX0_slack_8 rfl (lv_at hl 0 rfl) ?_
    refine va_get (D := (dC, dI)) (ci := 0) (v := .ref a4) (C := RX0) (T := TX0) (N := 11) hx hb hts hin hown hK hP 0 rfl rfl 3 (by decide) kf20 (fun _ h9 => h9) rfl dX0_slack_9 ?_
    refine lv_iload_n hx hb dX0_slack_12 rfl (lv_at hl 1 rfl) ?_
    refine tn_zald (i := k) (v := tn_b (on k)) hx hb hK hP 4 2 rfl rfl (by omega) (by decide) rfl dX0_slack_13 ?_
    refine lv_if_ne (tgt := 21) hx hb dX0_slack_14 (by decide) (fun c_14 => ?_) (fun c_14 => ?_)
    · skip
      have ho := tn_b_ne0 c_14
      have hk0 := (g.2 k hk).1
      have hk1 := (g.2 k hk).2.1
      refine lv_aload_n hx hb dX0_slack_21 rfl (lv_at hl 0 rfl) ?_
      refine lv_aload_n hx hb dX0_slack_22 rfl (lv_at hl 0 rfl) ?_
      refine va_get (D := (dC, dI)) (ci := 0) (v := .ref a2) (C := RX0) (T := TX0) (N := 11) hx hb hts hin hown hK hP 0 rfl rfl 1 (by decide) kf13 (fun _ h9 => h9) rfl dX0_slack_23 ?_
      refine lv_iload_n hx hb dX0_slack_26 rfl (lv_at hl 1 rfl) ?_
      refine tn_iald (i := k) (v := nI (sp k)) hx hb hK hP 2 0 rfl rfl (by omega) (by decide) rfl dX0_slack_27 ?_
      have hF := tn_freeA hD hS hA
      refine va_callv (va_runV (As := [.int (nI (sp k))]) (rest := []) ⟨hx, hb, hml, hown, hts⟩ (cX0_measureTo_ok l dC dI h a1 a2 a3 a4 a5 a6 a7 cI cL cZ cnt onc fp sp mo on lf sf rp rs rl H.size g (sp k) hk1) (cwV 1 hts gX0_slack_X0_measureTo rfl rfl rfl (by decide +kernel) ⟨Nat.le_of_ble_eq_true rfl, Nat.le_of_ble_eq_true rfl⟩) (tn_preV hK hP hD (ci := 0) rfl 0 rfl) rfl rfl hl.1 rfl (lv_room (Nat.le_of_ble_eq_true rfl)) dX0_slack_28 ⟨Nat.le_of_ble_eq_true rfl, Nat.le_of_ble_eq_true rfl⟩) hS (fun q _ h => hF q h) hF (fun u_28 t H1 locs ht hvm hw_28 hB hz1 hk1 hS => ?_)
      obtain ⟨hP1, -, hD1⟩ := hB
      rw [ht] at hP1
      have hD := hD1.weaken (fun _ q _ hq => hF q.1 hq)
      clear hP hk1 hF hz1 ht hvm hD1
      generalize H1 = H at hP1 hS ⊢
      have hP := hP1
      clear hP1
      refine lv_aload_n hx hb dX0_slack_31 rfl (lv_at hl 0 rfl) ?_
      refine va_get (D := (dC, dI)) (ci := 0) (v := .ref a3) (C := RX0) (T := TX0) (N := 11) hx hb hts hin hown hK hP 0 rfl rfl 2 (by decide) kf16 (fun _ h9 => h9) rfl dX0_slack_32 ?_
      refine lv_iload_n hx hb dX0_slack_35 rfl (lv_at hl 1 rfl) ?_
      refine tn_lald (i := k) (v := mo k) hx hb hK hP 3 1 rfl rfl (by omega) (by decide) rfl dX0_slack_36 ?_
      refine lv_aload_n hx hb dX0_slack_37 rfl (lv_at hl 0 rfl) ?_
      refine va_get (D := (dC, dI)) (ci := 0) (v := .ref a5) (C := RX0) (T := TX0) (N := 11) hx hb hts hin hown hK hP 0 rfl rfl 6 (by decide) kf24 (fun _ h9 => h9) rfl dX0_slack_38 ?_
      refine lv_aload_n hx hb dX0_slack_41 rfl (lv_at hl 0 rfl) ?_
      refine va_get (D := (dC, dI)) (ci := 0) (v := .ref a1) (C := RX0) (T := TX0) (N := 11) hx hb hts hin hown hK hP 0 rfl rfl 0 (by decide) kf9 (fun _ h9 => h9) rfl dX0_slack_42 ?_
      refine lv_iload_n hx hb dX0_slack_45 rfl (lv_at hl 1 rfl) ?_
      refine tn_iald (i := k) (v := nI (fp k)) hx hb hK hP 1 0 rfl rfl (by omega) (by decide) rfl dX0_slack_46 ?_
      refine tn_lald (i := (fp k)) (v := u_28.1 (fp k)) hx hb hK hP 5 1 rfl rfl (by omega) (by decide) rfl dX0_slack_47 ?_
      refine lv_lsub hx hb dX0_slack_48 ?_
      exact W.lret (v := (mo k) - (u_28.1 (fp k))) hx hb hr (fun t ht hW => ⟨⟨(mo k) - (u_28.1 (fp k)), (u_28.1, u_28.2), rfl, tn_slack_yes g ok hk ho (tn_ms_ok g ok hk1 hw_28), by rw [ht]; exact hP, va_K.moved hW.alike hK, hD⟩, hS.F ht⟩) hS.2.2 dX0_slack_49
    · skip
      have ho := tn_b_eq0 c_14
      refine lv_ldc2 (v := (-1)) hx hb hown kc79 dX0_slack_17 ?_
      exact W.lret (v := (-1)) hx hb hr (fun t ht hW => ⟨⟨(-1), (lf, sf), rfl, Or.inr ⟨fun k2 hk2 e => by rw [(nI_eq (by omega) (by omega)).mp e] at ho; exact ho, rfl⟩, by rw [ht]; exact hP, va_K.moved hW.alike hK, hD⟩, hS.F ht⟩) hS.2.2 dX0_slack_20
end
section
theorem tn_c0i (cA : ClassId) (n : Nat) : vp_cell cA (n, .inl (fun _ => nI 0)) = arrV cA n (fun _ => defaultValue .int) := vp_cell_i cA n _
theorem tn_c0i0 (cA : ClassId) (n : Nat) : vp_cell cA (n, .inl (fun _ => 0)) = arrV cA n (fun _ => defaultValue .int) := vp_cell_i cA n _
theorem tn_c0b (cA : ClassId) (n : Nat) : vp_cell cA (n, .inl (fun _ => tn_b false)) = arrV cA n (fun _ => defaultValue .boolean) := vp_cell_i cA n _
theorem tn_c0l (cA : ClassId) (n : Nat) : vp_cell cA (n, .inr (.inl (fun _ => 0))) = arrV cA n (fun _ => defaultValue .long) := vp_cell_l cA n _
set_option maxHeartbeats 4000000 in
set_option maxRecDepth 100000 in
/-- X0(): an empty net -/
theorem cX0_init_ok (l : Launch) (dC : Nat → ClassId) (dI : Nat → Nat → Nat) (h sz : Nat) : Met l yX0_init wsX0_init ({ frames := 1, cells := 7, slots := 541, locals := 12 }) (va_Pc [.ref h] (tn_Pre dC dI [] [(h, .inr (0, [.null, .null, .null, .null, .int 0, .int 0, .null, .null, .null, .int 0, .long 0]))] sz)) (va_Qv (S := Unit) (fun _ => True) (fun _ t => ∃ (a1 a2 a3 a4 a5 a6 a7 : Nat) (cI cL cZ : ClassId), tn_at dC dI (tn_tys cI cL cZ) (va_A [(h, .inr (0, [.null, .null, .null, .null, .int 0, .int 0, .null, .null, .null, .int 0, .long 0]))] sz) (tn_ws h a1 a2 a3 a4 a5 a6 a7 cI cL cZ 0 0 (fun _ => 0) (fun _ => 0) (fun _ => 0) (fun _ => false) (fun _ => 0) (fun _ => 0) (fun _ => 0) 0 0) t) (va_A [(h, .inr (0, [.null, .null, .null, .null, .int 0, .int 0, .null, .null, .null, .int 0, .long 0]))] sz)) 7 541 (va_A [(h, .inr (0, [.null, .null, .null, .null, .int 0, .int 0, .null, .null, .null, .int 0, .long 0]))] sz) := by
  refine Met.ofW (cc := cX0_init) (maxL := 1) (ret := none) (by decide) rfl ?_
  intro p e s m args below meth c s₁ B hml hv
  obtain ⟨rfl, hsz, hP, hK, hD0⟩ := hv
  have hx := B.exec
  have hb := B.bytes
  have hr := B.returns
  have hts := atoms_spec (ws := wsX0_init) B.pre
  have hown : s.vm.findClass RX0 = some m.cls := findClass_of_methodNamed B.named
  have hlocks := B.notSynchronized
  have hin2 : meth.name = "<init>" := (name_of_methodNamed B.named B.method).1
  subst hsz
  have hD := hD0.self (sz := s.heap.size)
  generalize hAe : va_A [(h, .inr (0, [.null, .null, .null, .null, .int 0, .int 0, .null, .null, .null, .int 0, .long 0]))] s.heap.size = A at hD ⊢
  have hA : ∀ q : Nat, s.heap.size ≤ q → A q := fun q h => by rw [← hAe]; exact Or.inr h
  have hS : va_S A s.heap s.heap [] := va_S.rf
  have hl := lv_entry ([.ref h]) (n := 1) (Nat.le_of_ble_eq_true rfl)
  rw [lg_entry_eq]
  generalize (lg_sl ([.ref h]) ++ List.replicate (1 - (lg_sl ([.ref h])).length) Slot.unset).toArray = ls at hl ⊢
  have hl : lv_has ls 1 [(0, .ref h)] := hl
  have hin : ∀ w ∈ u_ws RX0 TX0 11, w ∈ wsX0_init := by decide +kernel
  refine lv_aload_n hx hb dX0_init_0 rfl (lv_at hl 0 rfl) ?_
  refine W.objInit hx hb hown (hts (.methodLink RX0 1 objectInit) (by decide +kernel)) (hts (.instanceMethod objectInit) (by decide +kernel)) (hts _ (List.mem_cons_of_mem _ (List.mem_append_left _ (List.mem_of_getElem? (i := 2) rfl)))) rfl (by rw [hml]; exact hl.1) rfl dX0_init_1 (Nat.le_of_ble_eq_true rfl) (Nat.le_of_ble_eq_true rfl) ?_
  refine W.eq (g2 := F0 m 4 ls []) rfl ?_
  refine lv_aload_n hx hb dX0_init_4 rfl (lv_at hl 0 rfl) ?_
  refine lv_bipush (v := nI 120) hx hb dX0_init_5 (by decide) ?_
  refine va_newa (atype := .int) (n := nI 120) (N' := 120) (ty := .int) (a0 := (120, .inl (fun _ => nI 0))) hx hb (hts (.arrayClass .int) (by decide +kernel)) rfl hK hP hD hS hA (fun cA => tn_c0i cA _) (nI_pos (by omega)) (nI_clamp (by omega)) (show 120 * 4 ≤ 536870912 by omega) (Nat.le_of_ble_eq_true rfl) (Nat.le_of_ble_eq_true rfl) dX0_init_7 (fun a1 c0 H hK hP hD hS => ?_)
  have hK : va_K (dC, dI) vwCl [(c0, .int)] s := hK
  have hP : va_P (dC, dI) vwCl [(h, .inr (0, [.null, .null, .null, .null, .int 0, .int 0, .null, .null, .null, .int 0, .long 0])), (a1, .inl (c0, 120, .inl (fun _ => nI 0)))] H := hP
  have hD : va_D A [(h, .inr (0, [.null, .null, .null, .null, .int 0, .int 0, .null, .null, .null, .int 0, .long 0])), (a1, .inl (c0, 120, .inl (fun _ => nI 0)))] := hD
  refine va_putF (D := (dC, dI)) (ci := 0) (v := .ref a1) (ty := .array .int) (C := RX0) (T := TX0) (N := 11) hx hb hts hin tyX0 tyX0_ok nmX0 hown hK hP hD hS 0 rfl rfl 0 (by decide) (hts (.fieldLink RX0 9 "TimeNet" "firstPoint" "[I") (by decide +kernel)) (fun _ h9 => h9) rfl hin2 rfl (by decide +kernel) rfl rfl (Nat.le_of_ble_eq_true rfl) dX0_init_9 (fun H locs hP hD hS => ?_)
  have hP : va_P (dC, dI) vwCl [(h, .inr (0, [.ref a1, .null, .null, .null, .int 0, .int 0, .null, .null, .null, .int 0, .long 0])), (a1, .inl (c0, 120, .inl (fun _ => nI 0)))] H := hP
  have hD : va_D A [(h, .inr (0, [.ref a1, .null, .null, .null, .int 0, .int 0, .null, .null, .null, .int 0, .long 0])), (a1, .inl (c0, 120, .inl (fun _ => nI 0)))] := hD
  refine lv_aload_n hx hb dX0_init_12 rfl (lv_at hl 0 rfl) ?_
  refine lv_bipush (v := nI 120) hx hb dX0_init_13 (by decide) ?_
  refine va_newa (atype := .int) (n := nI 120) (N' := 120) (ty := .int) (a0 := (120, .inl (fun _ => nI 0))) hx hb (hts (.arrayClass .int) (by decide +kernel)) rfl hK hP hD hS hA (fun cA => tn_c0i cA _) (nI_pos (by omega)) (nI_clamp (by omega)) (show 120 * 4 ≤ 536870912 by omega) (Nat.le_of_ble_eq_true rfl) (Nat.le_of_ble_eq_true rfl) dX0_init_15 (fun a2 c1 H hK hP hD hS => ?_)
  have hK : va_K (dC, dI) vwCl [(c0, .int), (c1, .int)] s := hK
  have hP : va_P (dC, dI) vwCl [(h, .inr (0, [.ref a1, .null, .null, .null, .int 0, .int 0, .null, .null, .null, .int 0, .long 0])), (a1, .inl (c0, 120, .inl (fun _ => nI 0))), (a2, .inl (c1, 120, .inl (fun _ => nI 0)))] H := hP
  have hD : va_D A [(h, .inr (0, [.ref a1, .null, .null, .null, .int 0, .int 0, .null, .null, .null, .int 0, .long 0])), (a1, .inl (c0, 120, .inl (fun _ => nI 0))), (a2, .inl (c1, 120, .inl (fun _ => nI 0)))] := hD
  refine va_putF (D := (dC, dI)) (ci := 0) (v := .ref a2) (ty := .array .int) (C := RX0) (T := TX0) (N := 11) hx hb hts hin tyX0 tyX0_ok nmX0 hown hK hP hD hS 0 rfl rfl 1 (by decide) (hts (.fieldLink RX0 13 "TimeNet" "secondPoint" "[I") (by decide +kernel)) (fun _ h9 => h9) rfl hin2 rfl (by decide +kernel) rfl rfl (Nat.le_of_ble_eq_true rfl) dX0_init_17 (fun H locs hP hD hS => ?_)
  have hP : va_P (dC, dI) vwCl [(h, .inr (0, [.ref a1, .ref a2, .null, .null, .int 0, .int 0, .null, .null, .null, .int 0, .long 0])), (a1, .inl (c0, 120, .inl (fun _ => nI 0))), (a2, .inl (c1, 120, .inl (fun _ => nI 0)))] H := hP
  have hD : va_D A [(h, .inr (0, [.ref a1, .ref a2, .null, .null, .int 0, .int 0, .null, .null, .null, .int 0, .long 0])), (a1, .inl (c0, 120, .inl (fun _ => nI 0))), (a2, .inl (c1, 120, .inl (fun _ => nI 0)))] := hD
  refine lv_aload_n hx hb dX0_init_20 rfl (lv_at hl 0 rfl) ?_
  refine lv_bipush (v := nI 120) hx hb dX0_init_21 (by decide) ?_
  refine va_newa (atype := .long) (n := nI 120) (N' := 120) (ty := .long) (a0 := (120, .inr (.inl (fun _ => 0)))) hx hb (hts (.arrayClass .long) (by decide +kernel)) rfl hK hP hD hS hA (fun cA => tn_c0l cA _) (nI_pos (by omega)) (nI_clamp (by omega)) (show 120 * 8 ≤ 536870912 by omega) (Nat.le_of_ble_eq_true rfl) (Nat.le_of_ble_eq_true rfl) dX0_init_23 (fun a3 c2 H hK hP hD hS => ?_)
  have hK : va_K (dC, dI) vwCl [(c0, .int), (c1, .int), (c2, .long)] s := hK
  have hP : va_P (dC, dI) vwCl [(h, .inr (0, [.ref a1, .ref a2, .null, .null, .int 0, .int 0, .null, .null, .null, .int 0, .long 0])), (a1, .inl (c0, 120, .inl (fun _ => nI 0))), (a2, .inl (c1, 120, .inl (fun _ => nI 0))), (a3, .inl (c2, 120, .inr (.inl (fun _ => 0))))] H := hP
  have hD : va_D A [(h, .inr (0, [.ref a1, .ref a2, .null, .null, .int 0, .int 0, .null, .null, .null, .int 0, .long 0])), (a1, .inl (c0, 120, .inl (fun _ => nI 0))), (a2, .inl (c1, 120, .inl (fun _ => nI 0))), (a3, .inl (c2, 120, .inr (.inl (fun _ => 0))))] := hD
  refine va_putF (D := (dC, dI)) (ci := 0) (v := .ref a3) (ty := .array .long) (C := RX0) (T := TX0) (N := 11) hx hb hts hin tyX0 tyX0_ok nmX0 hown hK hP hD hS 0 rfl rfl 2 (by decide) (hts (.fieldLink RX0 16 "TimeNet" "most" "[J") (by decide +kernel)) (fun _ h9 => h9) rfl hin2 rfl (by decide +kernel) rfl rfl (Nat.le_of_ble_eq_true rfl) dX0_init_25 (fun H locs hP hD hS => ?_)
  have hP : va_P (dC, dI) vwCl [(h, .inr (0, [.ref a1, .ref a2, .ref a3, .null, .int 0, .int 0, .null, .null, .null, .int 0, .long 0])), (a1, .inl (c0, 120, .inl (fun _ => nI 0))), (a2, .inl (c1, 120, .inl (fun _ => nI 0))), (a3, .inl (c2, 120, .inr (.inl (fun _ => 0))))] H := hP
  have hD : va_D A [(h, .inr (0, [.ref a1, .ref a2, .ref a3, .null, .int 0, .int 0, .null, .null, .null, .int 0, .long 0])), (a1, .inl (c0, 120, .inl (fun _ => nI 0))), (a2, .inl (c1, 120, .inl (fun _ => nI 0))), (a3, .inl (c2, 120, .inr (.inl (fun _ => 0))))] := hD
  refine lv_aload_n hx hb dX0_init_28 rfl (lv_at hl 0 rfl) ?_
  refine lv_bipush (v := nI 120) hx hb dX0_init_29 (by decide) ?_
  refine va_newa (atype := .boolean) (n := nI 120) (N' := 120) (ty := .boolean) (a0 := (120, .inl (fun _ => tn_b false))) hx hb (hts (.arrayClass .boolean) (by decide +kernel)) rfl hK hP hD hS hA (fun cA => tn_c0b cA _) (nI_pos (by omega)) (nI_clamp (by omega)) (show 120 * 1 ≤ 536870912 by omega) (Nat.le_of_ble_eq_true rfl) (Nat.le_of_ble_eq_true rfl) dX0_init_31 (fun a4 c3 H hK hP hD hS => ?_)
  have hK : va_K (dC, dI) vwCl [(c0, .int), (c1, .int), (c2, .long), (c3, .boolean)] s := hK
  have hP : va_P (dC, dI) vwCl [(h, .inr (0, [.ref a1, .ref a2, .ref a3, .null, .int 0, .int 0, .null, .null, .null, .int 0, .long 0])), (a1, .inl (c0, 120, .inl (fun _ => nI 0))), (a2, .inl (c1, 120, .inl (fun _ => nI 0))), (a3, .inl (c2, 120, .inr (.inl (fun _ => 0)))), (a4, .inl (c3, 120, .inl (fun _ => tn_b false)))] H := hP
  have hD : va_D A [(h, .inr (0, [.ref a1, .ref a2, .ref a3, .null, .int 0, .int 0, .null, .null, .null, .int 0, .long 0])), (a1, .inl (c0, 120, .inl (fun _ => nI 0))), (a2, .inl (c1, 120, .inl (fun _ => nI 0))), (a3, .inl (c2, 120, .inr (.inl (fun _ => 0)))), (a4, .inl (c3, 120, .inl (fun _ => tn_b false)))] := hD
  refine va_putF (D := (dC, dI)) (ci := 0) (v := .ref a4) (ty := .array .boolean) (C := RX0) (T := TX0) (N := 11) hx hb hts hin tyX0 tyX0_ok nmX0 hown hK hP hD hS 0 rfl rfl 3 (by decide) (hts (.fieldLink RX0 20 "TimeNet" "isOn" "[Z") (by decide +kernel)) (fun _ h9 => h9) rfl hin2 rfl (by decide +kernel) rfl rfl (Nat.le_of_ble_eq_true rfl) dX0_init_33 (fun H locs hP hD hS => ?_)
  have hP : va_P (dC, dI) vwCl [(h, .inr (0, [.ref a1, .ref a2, .ref a3, .ref a4, .int 0, .int 0, .null, .null, .null, .int 0, .long 0])), (a1, .inl (c0, 120, .inl (fun _ => nI 0))), (a2, .inl (c1, 120, .inl (fun _ => nI 0))), (a3, .inl (c2, 120, .inr (.inl (fun _ => 0)))), (a4, .inl (c3, 120, .inl (fun _ => tn_b false)))] H := hP
  have hD : va_D A [(h, .inr (0, [.ref a1, .ref a2, .ref a3, .ref a4, .int 0, .int 0, .null, .null, .null, .int 0, .long 0])), (a1, .inl (c0, 120, .inl (fun _ => nI 0))), (a2, .inl (c1, 120, .inl (fun _ => nI 0))), (a3, .inl (c2, 120, .inr (.inl (fun _ => 0)))), (a4, .inl (c3, 120, .inl (fun _ => tn_b false)))] := hD
  refine lv_aload_n hx hb dX0_init_36 rfl (lv_at hl 0 rfl) ?_
  refine lv_bipush (v := nI 20) hx hb dX0_init_37 (by decide) ?_
  refine va_newa (atype := .long) (n := nI 20) (N' := 20) (ty := .long) (a0 := (20, .inr (.inl (fun _ => 0)))) hx hb (hts (.arrayClass .long) (by decide +kernel)) rfl hK hP hD hS hA (fun cA => tn_c0l cA _) (nI_pos (by omega)) (nI_clamp (by omega)) (show 20 * 8 ≤ 536870912 by omega) (Nat.le_of_ble_eq_true rfl) (Nat.le_of_ble_eq_true rfl) dX0_init_39 (fun a5 c4 H hK hP hD hS => ?_)
  have hK : va_K (dC, dI) vwCl [(c0, .int), (c1, .int), (c2, .long), (c3, .boolean), (c4, .long)] s := hK
  have hP : va_P (dC, dI) vwCl [(h, .inr (0, [.ref a1, .ref a2, .ref a3, .ref a4, .int 0, .int 0, .null, .null, .null, .int 0, .long 0])), (a1, .inl (c0, 120, .inl (fun _ => nI 0))), (a2, .inl (c1, 120, .inl (fun _ => nI 0))), (a3, .inl (c2, 120, .inr (.inl (fun _ => 0)))), (a4, .inl (c3, 120, .inl (fun _ => tn_b false))), (a5, .inl (c4, 20, .inr (.inl (fun _ => 0))))] H := hP
  have hD : va_D A [(h, .inr (0, [.ref a1, .ref a2, .ref a3, .ref a4, .int 0, .int 0, .null, .null, .null, .int 0, .long 0])), (a1, .inl (c0, 120, .inl (fun _ => nI 0))), (a2, .inl (c1, 120, .inl (fun _ => nI 0))), (a3, .inl (c2, 120, .inr (.inl (fun _ => 0)))), (a4, .inl (c3, 120, .inl (fun _ => tn_b false))), (a5, .inl (c4, 20, .inr (.inl (fun _ => 0))))] := hD
  refine va_putF (D := (dC, dI)) (ci := 0) (v := .ref a5) (ty := .array .long) (C := RX0) (T := TX0) (N := 11) hx hb hts hin tyX0 tyX0_ok nmX0 hown hK hP hD hS 0 rfl rfl 6 (by decide) (hts (.fieldLink RX0 24 "TimeNet" "lengthFrom" "[J") (by decide +kernel)) (fun _ h9 => h9) rfl hin2 rfl (by decide +kernel) rfl rfl (Nat.le_of_ble_eq_true rfl) dX0_init_41 (fun H locs hP hD hS => ?_)
  have hP : va_P (dC, dI) vwCl [(h, .inr (0, [.ref a1, .ref a2, .ref a3, .ref a4, .int 0, .int 0, .ref a5, .null, .null, .int 0, .long 0])), (a1, .inl (c0, 120, .inl (fun _ => nI 0))), (a2, .inl (c1, 120, .inl (fun _ => nI 0))), (a3, .inl (c2, 120, .inr (.inl (fun _ => 0)))), (a4, .inl (c3, 120, .inl (fun _ => tn_b false))), (a5, .inl (c4, 20, .inr (.inl (fun _ => 0))))] H := hP
  have hD : va_D A [(h, .inr (0, [.ref a1, .ref a2, .ref a3, .ref a4, .int 0, .int 0, .ref a5, .null, .null, .int 0, .long 0])), (a1, .inl (c0, 120, .inl (fun _ => nI 0))), (a2, .inl (c1, 120, .inl (fun _ => nI 0))), (a3, .inl (c2, 120, .inr (.inl (fun _ => 0)))), (a4, .inl (c3, 120, .inl (fun _ => tn_b false))), (a5, .inl (c4, 20, .inr (.inl (fun _ => 0))))] := hD
  refine lv_aload_n hx hb dX0_init_44 rfl (lv_at hl 0 rfl) ?_
  refine lv_bipush (v := nI 20) hx hb dX0_init_45 (by decide) ?_
  refine va_newa (atype := .int) (n := nI 20) (N' := 20) (ty := .int) (a0 := (20, .inl (fun _ => 0))) hx hb (hts (.arrayClass .int) (by decide +kernel)) rfl hK hP hD hS hA (fun cA => tn_c0i0 cA _) (nI_pos (by omega)) (nI_clamp (by omega)) (show 20 * 4 ≤ 536870912 by omega) (Nat.le_of_ble_eq_true rfl) (Nat.le_of_ble_eq_true rfl) dX0_init_47 (fun a6 c5 H hK hP hD hS => ?_)
  have hK : va_K (dC, dI) vwCl [(c0, .int), (c1, .int), (c2, .long), (c3, .boolean), (c4, .long), (c5, .int)] s := hK
  have hP : va_P (dC, dI) vwCl [(h, .inr (0, [.ref a1, .ref a2, .ref a3, .ref a4, .int 0, .int 0, .ref a5, .null, .null, .int 0, .long 0])), (a1, .inl (c0, 120, .inl (fun _ => nI 0))), (a2, .inl (c1, 120, .inl (fun _ => nI 0))), (a3, .inl (c2, 120, .inr (.inl (fun _ => 0)))), (a4, .inl (c3, 120, .inl (fun _ => tn_b false))), (a5, .inl (c4, 20, .inr (.inl (fun _ => 0)))), (a6, .inl (c5, 20, .inl (fun _ => 0)))] H := hP
  have hD : va_D A [(h, .inr (0, [.ref a1, .ref a2, .ref a3, .ref a4, .int 0, .int 0, .ref a5, .null, .null, .int 0, .long 0])), (a1, .inl (c0, 120, .inl (fun _ => nI 0))), (a2, .inl (c1, 120, .inl (fun _ => nI 0))), (a3, .inl (c2, 120, .inr (.inl (fun _ => 0)))), (a4, .inl (c3, 120, .inl (fun _ => tn_b false))), (a5, .inl (c4, 20, .inr (.inl (fun _ => 0)))), (a6, .inl (c5, 20, .inl (fun _ => 0)))] := hD
  refine va_putF (D := (dC, dI)) (ci := 0) (v := .ref a6) (ty := .array .int) (C := RX0) (T := TX0) (N := 11) hx hb hts hin tyX0 tyX0_ok nmX0 hown hK hP hD hS 0 rfl rfl 7 (by decide) (hts (.fieldLink RX0 27 "TimeNet" "stepsFrom" "[I") (by decide +kernel)) (fun _ h9 => h9) rfl hin2 rfl (by decide +kernel) rfl rfl (Nat.le_of_ble_eq_true rfl) dX0_init_49 (fun H locs hP hD hS => ?_)
  have hP : va_P (dC, dI) vwCl [(h, .inr (0, [.ref a1, .ref a2, .ref a3, .ref a4, .int 0, .int 0, .ref a5, .ref a6, .null, .int 0, .long 0])), (a1, .inl (c0, 120, .inl (fun _ => nI 0))), (a2, .inl (c1, 120, .inl (fun _ => nI 0))), (a3, .inl (c2, 120, .inr (.inl (fun _ => 0)))), (a4, .inl (c3, 120, .inl (fun _ => tn_b false))), (a5, .inl (c4, 20, .inr (.inl (fun _ => 0)))), (a6, .inl (c5, 20, .inl (fun _ => 0)))] H := hP
  have hD : va_D A [(h, .inr (0, [.ref a1, .ref a2, .ref a3, .ref a4, .int 0, .int 0, .ref a5, .ref a6, .null, .int 0, .long 0])), (a1, .inl (c0, 120, .inl (fun _ => nI 0))), (a2, .inl (c1, 120, .inl (fun _ => nI 0))), (a3, .inl (c2, 120, .inr (.inl (fun _ => 0)))), (a4, .inl (c3, 120, .inl (fun _ => tn_b false))), (a5, .inl (c4, 20, .inr (.inl (fun _ => 0)))), (a6, .inl (c5, 20, .inl (fun _ => 0)))] := hD
  refine lv_aload_n hx hb dX0_init_52 rfl (lv_at hl 0 rfl) ?_
  refine lv_bipush (v := nI 21) hx hb dX0_init_53 (by decide) ?_
  refine va_newa (atype := .int) (n := nI 21) (N' := 21) (ty := .int) (a0 := (21, .inl (fun _ => nI 0))) hx hb (hts (.arrayClass .int) (by decide +kernel)) rfl hK hP hD hS hA (fun cA => tn_c0i cA _) (nI_pos (by omega)) (nI_clamp (by omega)) (show 21 * 4 ≤ 536870912 by omega) (Nat.le_of_ble_eq_true rfl) (Nat.le_of_ble_eq_true rfl) dX0_init_55 (fun a7 c6 H hK hP hD hS => ?_)
  have hK : va_K (dC, dI) vwCl [(c0, .int), (c1, .int), (c2, .long), (c3, .boolean), (c4, .long), (c5, .int), (c6, .int)] s := hK
  have hP : va_P (dC, dI) vwCl [(h, .inr (0, [.ref a1, .ref a2, .ref a3, .ref a4, .int 0, .int 0, .ref a5, .ref a6, .null, .int 0, .long 0])), (a1, .inl (c0, 120, .inl (fun _ => nI 0))), (a2, .inl (c1, 120, .inl (fun _ => nI 0))), (a3, .inl (c2, 120, .inr (.inl (fun _ => 0)))), (a4, .inl (c3, 120, .inl (fun _ => tn_b false))), (a5, .inl (c4, 20, .inr (.inl (fun _ => 0)))), (a6, .inl (c5, 20, .inl (fun _ => 0))), (a7, .inl (c6, 21, .inl (fun _ => nI 0)))] H := hP
  have hD : va_D A [(h, .inr (0, [.ref a1, .ref a2, .ref a3, .ref a4, .int 0, .int 0, .ref a5, .ref a6, .null, .int 0, .long 0])), (a1, .inl (c0, 120, .inl (fun _ => nI 0))), (a2, .inl (c1, 120, .inl (fun _ => nI 0))), (a3, .inl (c2, 120, .inr (.inl (fun _ => 0)))), (a4, .inl (c3, 120, .inl (fun _ => tn_b false))), (a5, .inl (c4, 20, .inr (.inl (fun _ => 0)))), (a6, .inl (c5, 20, .inl (fun _ => 0))), (a7, .inl (c6, 21, .inl (fun _ => nI 0)))] := hD
  refine va_putF (D := (dC, dI)) (ci := 0) (v := .ref a7) (ty := .array .int) (C := RX0) (T := TX0) (N := 11) hx hb hts hin tyX0 tyX0_ok nmX0 hown hK hP hD hS 0 rfl rfl 8 (by decide) (hts (.fieldLink RX0 30 "TimeNet" "rowPoints" "[I") (by decide +kernel)) (fun _ h9 => h9) rfl hin2 rfl (by decide +kernel) rfl rfl (Nat.le_of_ble_eq_true rfl) dX0_init_57 (fun H locs hP hD hS => ?_)
  have hP : va_P (dC, dI) vwCl [(h, .inr (0, [.ref a1, .ref a2, .ref a3, .ref a4, .int 0, .int 0, .ref a5, .ref a6, .ref a7, .int 0, .long 0])), (a1, .inl (c0, 120, .inl (fun _ => nI 0))), (a2, .inl (c1, 120, .inl (fun _ => nI 0))), (a3, .inl (c2, 120, .inr (.inl (fun _ => 0)))), (a4, .inl (c3, 120, .inl (fun _ => tn_b false))), (a5, .inl (c4, 20, .inr (.inl (fun _ => 0)))), (a6, .inl (c5, 20, .inl (fun _ => 0))), (a7, .inl (c6, 21, .inl (fun _ => nI 0)))] H := hP
  have hD : va_D A [(h, .inr (0, [.ref a1, .ref a2, .ref a3, .ref a4, .int 0, .int 0, .ref a5, .ref a6, .ref a7, .int 0, .long 0])), (a1, .inl (c0, 120, .inl (fun _ => nI 0))), (a2, .inl (c1, 120, .inl (fun _ => nI 0))), (a3, .inl (c2, 120, .inr (.inl (fun _ => 0)))), (a4, .inl (c3, 120, .inl (fun _ => tn_b false))), (a5, .inl (c4, 20, .inr (.inl (fun _ => 0)))), (a6, .inl (c5, 20, .inl (fun _ => 0))), (a7, .inl (c6, 21, .inl (fun _ => nI 0)))] := hD
  have e1 := (tn_sameI hK (i := 0) (j := 1) rfl rfl).symm
  subst e1
  have e4 := (tn_sameJ hK (i := 2) (j := 4) rfl rfl).symm
  subst e4
  have e5 := (tn_sameI hK (i := 0) (j := 5) rfl rfl).symm
  subst e5
  have e6 := (tn_sameI hK (i := 0) (j := 6) rfl rfl).symm
  subst e6
  have hK9 := hK.sub (tys' := tn_tys c0 c2 c3) [0, 2, 3] rfl
  refine W.widen (k := 7) (n := 541) (by decide) (by decide) ?_
  exact W.vret hx hb hr (fun t ht hW => ⟨⟨(), rfl, trivial, a1, a2, a3, a4, a5, a6, a7, c0, c2, c3, by rw [ht]; exact hP, va_K.moved hW.alike hK9, hD⟩, hS.F ht⟩) hS.2.2 dX0_init_60
set_option maxHeartbeats 4000000 in
set_option maxRecDepth 100000 in
/-- X1(): an empty net -/
theorem cX1_init_ok (l : Launch) (dC : Nat → ClassId) (dI : Nat → Nat → Nat) (h sz : Nat) : Met l yX1_init wsX1_init ({ frames := 1, cells := 6, slots := 924, locals := 12 }) (va_Pc [.ref h] (tn_Pre dC dI [] [(h, .inr (1, [.int 0, .int 0, .null, .null, .null, .null, .int 0, .null, .long 0, .null, .long 0, .int 0]))] sz)) (va_Qv (S := Unit) (fun _ => True) (fun _ t => ∃ (b1 b2 b3 b4 b5 b6 : Nat) (cI cL cZ : ClassId), tn_at dC dI (tn_tys cI cL cZ) (va_A [(h, .inr (1, [.int 0, .int 0, .null, .null, .null, .null, .int 0, .null, .long 0, .null, .long 0, .int 0]))] sz) (tm_ws h b1 b2 b3 b4 b5 b6 cI cL cZ 0 0 (fun _ => 0) (fun _ => 0) (fun _ => 0) (fun _ => false) 0 (fun _ => 0) 0 (fun _ => 0) 0 0) t) (va_A [(h, .inr (1, [.int 0, .int 0, .null, .null, .null, .null, .int 0, .null, .long 0, .null, .long 0, .int 0]))] sz)) 6 924 (va_A [(h, .inr (1, [.int 0, .int 0, .null, .null, .null, .null, .int 0, .null, .long 0, .null, .long 0, .int 0]))] sz) := by
  refine Met.ofW (cc := cX1_init) (maxL := 1) (ret := none) (by decide) rfl ?_
  intro p e s m args below meth c s₁ B hml hv
  obtain ⟨rfl, hsz, hP, hK, hD0⟩ := hv
  have hx := B.exec
  have hb := B.bytes
  have hr := B.returns
  have hts := atoms_spec (ws := wsX1_init) B.pre
  have hown : s.vm.findClass RX1 = some m.cls := findClass_of_methodNamed B.named
  have hlocks := B.notSynchronized
  have hin2 : meth.name = "<init>" := (name_of_methodNamed B.named B.method).1
  subst hsz
  have hD := hD0.self (sz := s.heap.size)
  generalize hAe : va_A [(h, .inr (1, [.int 0, .int 0, .null, .null, .null, .null, .int 0, .null, .long 0, .null, .long 0, .int 0]))] s.heap.size = A at hD ⊢
  have hA : ∀ q : Nat, s.heap.size ≤ q → A q := fun q h => by rw [← hAe]; exact Or.inr h
  have hS : va_S A s.heap s.heap [] := va_S.rf
  have hl := lv_entry ([.ref h]) (n := 1) (Nat.le_of_ble_eq_true rfl)
  rw [lg_entry_eq]
  generalize (lg_sl ([.ref h]) ++ List.replicate (1 - (lg_sl ([.ref h])).length) Slot.unset).toArray = ls at hl ⊢
  have hl : lv_has ls 1 [(0, .ref h)] := hl
  have hin : ∀ w ∈ u_ws RX1 TX1 12, w ∈ wsX1_init := by decide +kernel
  refine lv_aload_n hx hb dX1_init_0 rfl (lv_at hl 0 rfl) ?_
  refine W.objInit hx hb hown (hts (.methodLink RX1 1 objectInit) (by decide +kernel)) (hts (.instanceMethod objectInit) (by decide +kernel)) (hts _ (List.mem_cons_of_mem _ (List.mem_append_left _ (List.mem_of_getElem? (i := 2) rfl)))) rfl (by rw [hml]; exact hl.1) rfl dX1_init_1 (Nat.le_of_ble_eq_true rfl) (Nat.le_of_ble_eq_true rfl) ?_
  refine W.eq (g2 := F0 m 4 ls []) rfl ?_
  refine lv_aload_n hx hb dX1_init_4 rfl (lv_at hl 0 rfl) ?_
  refine lv_bipush (v := nI 120) hx hb dX1_init_5 (by decide) ?_
  refine va_newa (atype := .int) (n := nI 120) (N' := 120) (ty := .int) (a0 := (120, .inl (fun _ => nI 0))) hx hb (hts (.arrayClass .int) (by decide +kernel)) rfl hK hP hD hS hA (fun cA => tn_c0i cA _) (nI_pos (by omega)) (nI_clamp (by omega)) (show 120 * 4 ≤ 536870912 by omega) (Nat.le_of_ble_eq_true rfl) (Nat.le_of_ble_eq_true rfl) dX1_init_7 (fun b1 c0 H hK hP hD hS => ?_)
  have hK : va_K (dC, dI) vwCl [(c0, .int)] s := hK
  have hP : va_P (dC, dI) vwCl [(h, .inr (1, [.int 0, .int 0, .null, .null, .null, .null, .int 0, .null, .long 0, .null, .long 0, .int 0])), (b1, .inl (c0, 120, .inl (fun _ => nI 0)))] H := hP
  have hD : va_D A [(h, .inr (1, [.int 0, .int 0, .null, .null, .null, .null, .int 0, .null, .long 0, .null, .long 0, .int 0])), (b1, .inl (c0, 120, .inl (fun _ => nI 0)))] := hD
  refine va_putF (D := (dC, dI)) (ci := 1) (v := .ref b1) (ty := .array .int) (C := RX1) (T := TX1) (N := 12) hx hb hts hin tyX1 tyX1_ok nmX1 hown hK hP hD hS 0 rfl rfl 2 (by decide) (hts (.fieldLink RX1 7 "TimeNetModel" "first" "[I") (by decide +kernel)) (fun _ h9 => h9) rfl hin2 rfl (by decide +kernel) rfl rfl (Nat.le_of_ble_eq_true rfl) dX1_init_9 (fun H locs hP hD hS => ?_)
  have hP : va_P (dC, dI) vwCl [(h, .inr (1, [.int 0, .int 0, .ref b1, .null, .null, .null, .int 0, .null, .long 0, .null, .long 0, .int 0])), (b1, .inl (c0, 120, .inl (fun _ => nI 0)))] H := hP
  have hD : va_D A [(h, .inr (1, [.int 0, .int 0, .ref b1, .null, .null, .null, .int 0, .null, .long 0, .null, .long 0, .int 0])), (b1, .inl (c0, 120, .inl (fun _ => nI 0)))] := hD
  refine lv_aload_n hx hb dX1_init_12 rfl (lv_at hl 0 rfl) ?_
  refine lv_bipush (v := nI 120) hx hb dX1_init_13 (by decide) ?_
  refine va_newa (atype := .int) (n := nI 120) (N' := 120) (ty := .int) (a0 := (120, .inl (fun _ => nI 0))) hx hb (hts (.arrayClass .int) (by decide +kernel)) rfl hK hP hD hS hA (fun cA => tn_c0i cA _) (nI_pos (by omega)) (nI_clamp (by omega)) (show 120 * 4 ≤ 536870912 by omega) (Nat.le_of_ble_eq_true rfl) (Nat.le_of_ble_eq_true rfl) dX1_init_15 (fun b2 c1 H hK hP hD hS => ?_)
  have hK : va_K (dC, dI) vwCl [(c0, .int), (c1, .int)] s := hK
  have hP : va_P (dC, dI) vwCl [(h, .inr (1, [.int 0, .int 0, .ref b1, .null, .null, .null, .int 0, .null, .long 0, .null, .long 0, .int 0])), (b1, .inl (c0, 120, .inl (fun _ => nI 0))), (b2, .inl (c1, 120, .inl (fun _ => nI 0)))] H := hP
  have hD : va_D A [(h, .inr (1, [.int 0, .int 0, .ref b1, .null, .null, .null, .int 0, .null, .long 0, .null, .long 0, .int 0])), (b1, .inl (c0, 120, .inl (fun _ => nI 0))), (b2, .inl (c1, 120, .inl (fun _ => nI 0)))] := hD
  refine va_putF (D := (dC, dI)) (ci := 1) (v := .ref b2) (ty := .array .int) (C := RX1) (T := TX1) (N := 12) hx hb hts hin tyX1 tyX1_ok nmX1 hown hK hP hD hS 0 rfl rfl 3 (by decide) (hts (.fieldLink RX1 13 "TimeNetModel" "second" "[I") (by decide +kernel)) (fun _ h9 => h9) rfl hin2 rfl (by decide +kernel) rfl rfl (Nat.le_of_ble_eq_true rfl) dX1_init_17 (fun H locs hP hD hS => ?_)
  have hP : va_P (dC, dI) vwCl [(h, .inr (1, [.int 0, .int 0, .ref b1, .ref b2, .null, .null, .int 0, .null, .long 0, .null, .long 0, .int 0])), (b1, .inl (c0, 120, .inl (fun _ => nI 0))), (b2, .inl (c1, 120, .inl (fun _ => nI 0)))] H := hP
  have hD : va_D A [(h, .inr (1, [.int 0, .int 0, .ref b1, .ref b2, .null, .null, .int 0, .null, .long 0, .null, .long 0, .int 0])), (b1, .inl (c0, 120, .inl (fun _ => nI 0))), (b2, .inl (c1, 120, .inl (fun _ => nI 0)))] := hD
  refine lv_aload_n hx hb dX1_init_20 rfl (lv_at hl 0 rfl) ?_
  refine lv_bipush (v := nI 120) hx hb dX1_init_21 (by decide) ?_
  refine va_newa (atype := .long) (n := nI 120) (N' := 120) (ty := .long) (a0 := (120, .inr (.inl (fun _ => 0)))) hx hb (hts (.arrayClass .long) (by decide +kernel)) rfl hK hP hD hS hA (fun cA => tn_c0l cA _) (nI_pos (by omega)) (nI_clamp (by omega)) (show 120 * 8 ≤ 536870912 by omega) (Nat.le_of_ble_eq_true rfl) (Nat.le_of_ble_eq_true rfl) dX1_init_23 (fun b3 c2 H hK hP hD hS => ?_)
  have hK : va_K (dC, dI) vwCl [(c0, .int), (c1, .int), (c2, .long)] s := hK
  have hP : va_P (dC, dI) vwCl [(h, .inr (1, [.int 0, .int 0, .ref b1, .ref b2, .null, .null, .int 0, .null, .long 0, .null, .long 0, .int 0])), (b1, .inl (c0, 120, .inl (fun _ => nI 0))), (b2, .inl (c1, 120, .inl (fun _ => nI 0))), (b3, .inl (c2, 120, .inr (.inl (fun _ => 0))))] H := hP
  have hD : va_D A [(h, .inr (1, [.int 0, .int 0, .ref b1, .ref b2, .null, .null, .int 0, .null, .long 0, .null, .long 0, .int 0])), (b1, .inl (c0, 120, .inl (fun _ => nI 0))), (b2, .inl (c1, 120, .inl (fun _ => nI 0))), (b3, .inl (c2, 120, .inr (.inl (fun _ => 0))))] := hD
  refine va_putF (D := (dC, dI)) (ci := 1) (v := .ref b3) (ty := .array .long) (C := RX1) (T := TX1) (N := 12) hx hb hts hin tyX1 tyX1_ok nmX1 hown hK hP hD hS 0 rfl rfl 4 (by decide) (hts (.fieldLink RX1 16 "TimeNetModel" "c" "[J") (by decide +kernel)) (fun _ h9 => h9) rfl hin2 rfl (by decide +kernel) rfl rfl (Nat.le_of_ble_eq_true rfl) dX1_init_25 (fun H locs hP hD hS => ?_)
  have hP : va_P (dC, dI) vwCl [(h, .inr (1, [.int 0, .int 0, .ref b1, .ref b2, .ref b3, .null, .int 0, .null, .long 0, .null, .long 0, .int 0])), (b1, .inl (c0, 120, .inl (fun _ => nI 0))), (b2, .inl (c1, 120, .inl (fun _ => nI 0))), (b3, .inl (c2, 120, .inr (.inl (fun _ => 0))))] H := hP
  have hD : va_D A [(h, .inr (1, [.int 0, .int 0, .ref b1, .ref b2, .ref b3, .null, .int 0, .null, .long 0, .null, .long 0, .int 0])), (b1, .inl (c0, 120, .inl (fun _ => nI 0))), (b2, .inl (c1, 120, .inl (fun _ => nI 0))), (b3, .inl (c2, 120, .inr (.inl (fun _ => 0))))] := hD
  refine lv_aload_n hx hb dX1_init_28 rfl (lv_at hl 0 rfl) ?_
  refine lv_bipush (v := nI 120) hx hb dX1_init_29 (by decide) ?_
  refine va_newa (atype := .boolean) (n := nI 120) (N' := 120) (ty := .boolean) (a0 := (120, .inl (fun _ => tn_b false))) hx hb (hts (.arrayClass .boolean) (by decide +kernel)) rfl hK hP hD hS hA (fun cA => tn_c0b cA _) (nI_pos (by omega)) (nI_clamp (by omega)) (show 120 * 1 ≤ 536870912 by omega) (Nat.le_of_ble_eq_true rfl) (Nat.le_of_ble_eq_true rfl) dX1_init_31 (fun b4 c3 H hK hP hD hS => ?_)
  have hK : va_K (dC, dI) vwCl [(c0, .int), (c1, .int), (c2, .long), (c3, .boolean)] s := hK
  have hP : va_P (dC, dI) vwCl [(h, .inr (1, [.int 0, .int 0, .ref b1, .ref b2, .ref b3, .null, .int 0, .null, .long 0, .null, .long 0, .int 0])), (b1, .inl (c0, 120, .inl (fun _ => nI 0))), (b2, .inl (c1, 120, .inl (fun _ => nI 0))), (b3, .inl (c2, 120, .inr (.inl (fun _ => 0)))), (b4, .inl (c3, 120, .inl (fun _ => tn_b false)))] H := hP
  have hD : va_D A [(h, .inr (1, [.int 0, .int 0, .ref b1, .ref b2, .ref b3, .null, .int 0, .null, .long 0, .null, .long 0, .int 0])), (b1, .inl (c0, 120, .inl (fun _ => nI 0))), (b2, .inl (c1, 120, .inl (fun _ => nI 0))), (b3, .inl (c2, 120, .inr (.inl (fun _ => 0)))), (b4, .inl (c3, 120, .inl (fun _ => tn_b false)))] := hD
  refine va_putF (D := (dC, dI)) (ci := 1) (v := .ref b4) (ty := .array .boolean) (C := RX1) (T := TX1) (N := 12) hx hb hts hin tyX1 tyX1_ok nmX1 hown hK hP hD hS 0 rfl rfl 5 (by decide) (hts (.fieldLink RX1 20 "TimeNetModel" "isOn" "[Z") (by decide +kernel)) (fun _ h9 => h9) rfl hin2 rfl (by decide +kernel) rfl rfl (Nat.le_of_ble_eq_true rfl) dX1_init_33 (fun H locs hP hD hS => ?_)
  have hP : va_P (dC, dI) vwCl [(h, .inr (1, [.int 0, .int 0, .ref b1, .ref b2, .ref b3, .ref b4, .int 0, .null, .long 0, .null, .long 0, .int 0])), (b1, .inl (c0, 120, .inl (fun _ => nI 0))), (b2, .inl (c1, 120, .inl (fun _ => nI 0))), (b3, .inl (c2, 120, .inr (.inl (fun _ => 0)))), (b4, .inl (c3, 120, .inl (fun _ => tn_b false)))] H := hP
  have hD : va_D A [(h, .inr (1, [.int 0, .int 0, .ref b1, .ref b2, .ref b3, .ref b4, .int 0, .null, .long 0, .null, .long 0, .int 0])), (b1, .inl (c0, 120, .inl (fun _ => nI 0))), (b2, .inl (c1, 120, .inl (fun _ => nI 0))), (b3, .inl (c2, 120, .inr (.inl (fun _ => 0)))), (b4, .inl (c3, 120, .inl (fun _ => tn_b false)))] := hD
  refine lv_aload_n hx hb dX1_init_36 rfl (lv_at hl 0 rfl) ?_
  refine lv_bipush (v := nI 24) hx hb dX1_init_37 (by decide) ?_
  refine va_newa (atype := .int) (n := nI 24) (N' := 24) (ty := .int) (a0 := (24, .inl (fun _ => nI 0))) hx hb (hts (.arrayClass .int) (by decide +kernel)) rfl hK hP hD hS hA (fun cA => tn_c0i cA _) (nI_pos (by omega)) (nI_clamp (by omega)) (show 24 * 4 ≤ 536870912 by omega) (Nat.le_of_ble_eq_true rfl) (Nat.le_of_ble_eq_true rfl) dX1_init_39 (fun b5 c4 H hK hP hD hS => ?_)
  have hK : va_K (dC, dI) vwCl [(c0, .int), (c1, .int), (c2, .long), (c3, .boolean), (c4, .int)] s := hK
  have hP : va_P (dC, dI) vwCl [(h, .inr (1, [.int 0, .int 0, .ref b1, .ref b2, .ref b3, .ref b4, .int 0, .null, .long 0, .null, .long 0, .int 0])), (b1, .inl (c0, 120, .inl (fun _ => nI 0))), (b2, .inl (c1, 120, .inl (fun _ => nI 0))), (b3, .inl (c2, 120, .inr (.inl (fun _ => 0)))), (b4, .inl (c3, 120, .inl (fun _ => tn_b false))), (b5, .inl (c4, 24, .inl (fun _ => nI 0)))] H := hP
  have hD : va_D A [(h, .inr (1, [.int 0, .int 0, .ref b1, .ref b2, .ref b3, .ref b4, .int 0, .null, .long 0, .null, .long 0, .int 0])), (b1, .inl (c0, 120, .inl (fun _ => nI 0))), (b2, .inl (c1, 120, .inl (fun _ => nI 0))), (b3, .inl (c2, 120, .inr (.inl (fun _ => 0)))), (b4, .inl (c3, 120, .inl (fun _ => tn_b false))), (b5, .inl (c4, 24, .inl (fun _ => nI 0)))] := hD
  refine va_putF (D := (dC, dI)) (ci := 1) (v := .ref b5) (ty := .array .int) (C := RX1) (T := TX1) (N := 12) hx hb hts hin tyX1 tyX1_ok nmX1 hown hK hP hD hS 0 rfl rfl 7 (by decide) (hts (.fieldLink RX1 24 "TimeNetModel" "row" "[I") (by decide +kernel)) (fun _ h9 => h9) rfl hin2 rfl (by decide +kernel) rfl rfl (Nat.le_of_ble_eq_true rfl) dX1_init_41 (fun H locs hP hD hS => ?_)
  have hP : va_P (dC, dI) vwCl [(h, .inr (1, [.int 0, .int 0, .ref b1, .ref b2, .ref b3, .ref b4, .int 0, .ref b5, .long 0, .null, .long 0, .int 0])), (b1, .inl (c0, 120, .inl (fun _ => nI 0))), (b2, .inl (c1, 120, .inl (fun _ => nI 0))), (b3, .inl (c2, 120, .inr (.inl (fun _ => 0)))), (b4, .inl (c3, 120, .inl (fun _ => tn_b false))), (b5, .inl (c4, 24, .inl (fun _ => nI 0)))] H := hP
  have hD : va_D A [(h, .inr (1, [.int 0, .int 0, .ref b1, .ref b2, .ref b3, .ref b4, .int 0, .ref b5, .long 0, .null, .long 0, .int 0])), (b1, .inl (c0, 120, .inl (fun _ => nI 0))), (b2, .inl (c1, 120, .inl (fun _ => nI 0))), (b3, .inl (c2, 120, .inr (.inl (fun _ => 0)))), (b4, .inl (c3, 120, .inl (fun _ => tn_b false))), (b5, .inl (c4, 24, .inl (fun _ => nI 0)))] := hD
  refine lv_aload_n hx hb dX1_init_44 rfl (lv_at hl 0 rfl) ?_
  refine lv_sipush (v := nI 420) hx hb dX1_init_45 (by decide) ?_
  refine va_newa (atype := .long) (n := nI 420) (N' := 420) (ty := .long) (a0 := (420, .inr (.inl (fun _ => 0)))) hx hb (hts (.arrayClass .long) (by decide +kernel)) rfl hK hP hD hS hA (fun cA => tn_c0l cA _) (nI_pos (by omega)) (nI_clamp (by omega)) (show 420 * 8 ≤ 536870912 by omega) (Nat.le_of_ble_eq_true rfl) (Nat.le_of_ble_eq_true rfl) dX1_init_48 (fun b6 c5 H hK hP hD hS => ?_)
  have hK : va_K (dC, dI) vwCl [(c0, .int), (c1, .int), (c2, .long), (c3, .boolean), (c4, .int), (c5, .long)] s := hK
  have hP : va_P (dC, dI) vwCl [(h, .inr (1, [.int 0, .int 0, .ref b1, .ref b2, .ref b3, .ref b4, .int 0, .ref b5, .long 0, .null, .long 0, .int 0])), (b1, .inl (c0, 120, .inl (fun _ => nI 0))), (b2, .inl (c1, 120, .inl (fun _ => nI 0))), (b3, .inl (c2, 120, .inr (.inl (fun _ => 0)))), (b4, .inl (c3, 120, .inl (fun _ => tn_b false))), (b5, .inl (c4, 24, .inl (fun _ => nI 0))), (b6, .inl (c5, 420, .inr (.inl (fun _ => 0))))] H := hP
  have hD : va_D A [(h, .inr (1, [.int 0, .int 0, .ref b1, .ref b2, .ref b3, .ref b4, .int 0, .ref b5, .long 0, .null, .long 0, .int 0])), (b1, .inl (c0, 120, .inl (fun _ => nI 0))), (b2, .inl (c1, 120, .inl (fun _ => nI 0))), (b3, .inl (c2, 120, .inr (.inl (fun _ => 0)))), (b4, .inl (c3, 120, .inl (fun _ => tn_b false))), (b5, .inl (c4, 24, .inl (fun _ => nI 0))), (b6, .inl (c5, 420, .inr (.inl (fun _ => 0))))] := hD
  refine va_putF (D := (dC, dI)) (ci := 1) (v := .ref b6) (ty := .array .long) (C := RX1) (T := TX1) (N := 12) hx hb hts hin tyX1 tyX1_ok nmX1 hown hK hP hD hS 0 rfl rfl 9 (by decide) (hts (.fieldLink RX1 27 "TimeNetModel" "least" "[J") (by decide +kernel)) (fun _ h9 => h9) rfl hin2 rfl (by decide +kernel) rfl rfl (Nat.le_of_ble_eq_true rfl) dX1_init_50 (fun H locs hP hD hS => ?_)
  have hP : va_P (dC, dI) vwCl [(h, .inr (1, [.int 0, .int 0, .ref b1, .ref b2, .ref b3, .ref b4, .int 0, .ref b5, .long 0, .ref b6, .long 0, .int 0])), (b1, .inl (c0, 120, .inl (fun _ => nI 0))), (b2, .inl (c1, 120, .inl (fun _ => nI 0))), (b3, .inl (c2, 120, .inr (.inl (fun _ => 0)))), (b4, .inl (c3, 120, .inl (fun _ => tn_b false))), (b5, .inl (c4, 24, .inl (fun _ => nI 0))), (b6, .inl (c5, 420, .inr (.inl (fun _ => 0))))] H := hP
  have hD : va_D A [(h, .inr (1, [.int 0, .int 0, .ref b1, .ref b2, .ref b3, .ref b4, .int 0, .ref b5, .long 0, .ref b6, .long 0, .int 0])), (b1, .inl (c0, 120, .inl (fun _ => nI 0))), (b2, .inl (c1, 120, .inl (fun _ => nI 0))), (b3, .inl (c2, 120, .inr (.inl (fun _ => 0)))), (b4, .inl (c3, 120, .inl (fun _ => tn_b false))), (b5, .inl (c4, 24, .inl (fun _ => nI 0))), (b6, .inl (c5, 420, .inr (.inl (fun _ => 0))))] := hD
  have e1 := (tn_sameI hK (i := 0) (j := 1) rfl rfl).symm
  subst e1
  have e4 := (tn_sameI hK (i := 0) (j := 4) rfl rfl).symm
  subst e4
  have e5 := (tn_sameJ hK (i := 2) (j := 5) rfl rfl).symm
  subst e5
  have hK9 := hK.sub (tys' := tn_tys c0 c2 c3) [0, 2, 3] rfl
  refine W.widen (k := 6) (n := 924) (by decide) (by decide) ?_
  exact W.vret hx hb hr (fun t ht hW => ⟨⟨(), rfl, trivial, b1, b2, b3, b4, b5, b6, c0, c2, c3, by rw [ht]; exact hP, va_K.moved hW.alike hK9, hD⟩, hS.F ht⟩) hS.2.2 dX1_init_53
end
section
/-! what a throw needs, and what it leaves; worlds side by side -/
def tn_NS : String := "java/util/NoSuchElementException"
def tn_fB : List Cond := [.declares ⟨"java/lang/RuntimeException", "<init>", "()V"⟩, .declares ⟨"java/lang/Exception", "<init>", "()V"⟩, .declares ⟨"java/lang/Throwable", "<init>", "()V"⟩, .castable "java/util/NoSuchElementException" "java/util/NoSuchElementException"]
theorem tn_fB_ok : ∀ w ∈ tn_fB, w.faceAtom = true ∧ w.onTables = true := by decide +kernel
def tn_face (U : State) : Prop := ∀ w ∈ tn_fB, va_Nw w U
theorem tn_face.moved {u U : State} (hvm : u.vm.Alike U.vm) (h : tn_face u) : tn_face U := fun w hw =>
  va_tabs (tn_fB_ok w hw).2 (rfl : (u.setVm U.vm).vm = U.vm) (Cond.faceAtom_setVm (args := #[]) hvm w (tn_fB_ok w hw).1 (h w hw))
theorem tn_face.use {s : State} {args : Array Value} (h : tn_face s) : ∀ w ∈ tn_fB, w.before args s = true := fun w hw => va_Nw.use (tn_fB_ok w hw).2 (h w hw)
abbrev tn_at0 : List Cond := vx_at0 RX0 56 "java/util/NoSuchElementException" ["java/lang/RuntimeException", "java/lang/Exception"]
theorem tn_at0_no : ∀ w ∈ tn_at0.filter (fun w => !goodWord w), w ∈ tn_fB := by decide +kernel
theorem tn_at0_good : ∀ w ∈ Cond.classLink RX0 54 "java/util/NoSuchElementException" :: Cond.initialized "java/util/NoSuchElementException" :: tn_at0, vx_ot w = true := by decide +kernel
abbrev tn_Zs (A : Nat → Prop) (U : State) (H : Heap) : Prop := vx_Zq Bundle.tN "UNASSIGNED_STACK" Bundle.steD A U H ∧ vx_Zq Bundle.tN "SUPPRESSED_SENTINEL" Bundle.listD A U H
abbrev tn_PreX (dC : Nat → ClassId) (dI : Nat → Nat → Nat) (tys : List (ClassId × FieldType)) (ws : va_W) (sz : Nat) (U : State) : Prop := tn_Pre dC dI tys ws sz U ∧ tn_face U ∧ tn_Zs (va_A ws sz) U U.heap
theorem tn_blindX {dC : Nat → ClassId} {dI : Nat → Nat → Nat} {tys : List (ClassId × FieldType)} {ws : va_W} {sz : Nat} {av : List Value} : FrameBlind (va_Pc av (tn_PreX dC dI tys ws sz)) := fun a U g mk q => by
  obtain ⟨q0, ⟨q1, qP, qK, qD⟩, qf, qU, qN⟩ := q
  exact ⟨q0, ⟨q1, qP, va_K.moved (u := U) (U := U.calling g mk a) (Vm.Alike.refl U.vm) qK, qD⟩, qf.moved (u := U) (U := U.calling g mk a) (Vm.Alike.refl U.vm), qU.moved (u := U) (U := U.calling g mk a) (Vm.Alike.refl U.vm), qN.moved (u := U) (U := U.calling g mk a) (Vm.Alike.refl U.vm)⟩
theorem tn_Zs_at {A : Nat → Prop} {s : State} {H : Heap} {locs : List Loc} (h : tn_Zs A s s.heap) (hS : va_S A s.heap H locs) {ws : va_W} (hF : ∀ q, va_A ws H.size q → A q) {U : State} (hU : U.heap = H) (hvm : s.vm.Alike U.vm) : tn_Zs (va_A ws H.size) U U.heap := by
  rw [hU]
  exact ⟨((h.1.kept hS.2.1).narrow hF).moved hvm, ((h.2.kept hS.2.1).narrow hF).moved hvm⟩
theorem tn_preX {dC : Nat → ClassId} {dI : Nat → Nat → Nat} {tys : List (ClassId × FieldType)} {ws : va_W} {s : State} {H : Heap} {A : Nat → Prop} {As : List Value} {b ci : Nat} {q : vw_C} {fs : List Value} {locs : List Loc} (hK : va_K (dC, dI) vwCl tys s) (hP : va_P (dC, dI) vwCl ws H) (hD : va_D (va_A ws H.size) ws) (hc : vwCl[ci]? = some q) (q0 : Nat) (he : ws[q0]? = some (b, .inr (ci, fs))) (hf : tn_face s) (hZ : tn_Zs A s s.heap) (hS : va_S A s.heap H locs) (hF : ∀ q, va_A ws H.size q → A q) : PreV s H q.1 b (va_Pc (.ref b :: As) (tn_PreX dC dI tys ws H.size)) As :=
  ⟨tn_blindX, va_recv hK hP (ci := ci) (q0 := q0) hc he, fun U hU hW => ⟨rfl, ⟨by rw [hU], by rw [hU]; exact hP, va_K.moved hW.alike hK, hD.weaken (fun _ _ _ _ => trivial)⟩, hf.moved hW.alike, tn_Zs_at hZ hS hF hU hW.alike⟩⟩
theorem tn_preXS {dC : Nat → ClassId} {dI : Nat → Nat → Nat} {tys : List (ClassId × FieldType)} {ws : va_W} {s : State} {H : Heap} {A : Nat → Prop} {As : List Value} {locs : List Loc} (hK : va_K (dC, dI) vwCl tys s) (hP : va_P (dC, dI) vwCl ws H) (hD : va_D (va_A ws H.size) ws) (hf : tn_face s) (hZ : tn_Zs A s s.heap) (hS : va_S A s.heap H locs) (hF : ∀ q, va_A ws H.size q → A q) : PreS s H (va_Pc As (tn_PreX dC dI tys ws H.size)) As :=
  ⟨tn_blindX, fun U hU hW => ⟨rfl, ⟨by rw [hU], by rw [hU]; exact hP, va_K.moved hW.alike hK, hD.weaken (fun _ _ _ _ => trivial)⟩, hf.moved hW.alike, tn_Zs_at hZ hS hF hU hW.alike⟩⟩
theorem tn_D_self {A : Nat → Prop} {ws : va_W} {sz : Nat} (h : va_D A ws) : va_D (va_A ws sz) ws := (h.weaken (fun _ _ _ _ => trivial) : va_D (fun _ => True) ws).self
/-- where a throw has left the heap -/
theorem tn_xc {dC : Nat → ClassId} {dI : Nat → Nat → Nat} {tys : List (ClassId × FieldType)} {ws : va_W} {s t : State} {H : Heap} {A : Nat → Prop} {locs : List Loc} {I : Prop} (hi : I) (hK : va_K (dC, dI) vwCl tys s) (hP : va_P (dC, dI) vwCl ws H) (hD : va_D A ws) (hS : va_S A s.heap H locs) (hvm : s.vm.Alike t.vm) (h1 : H.size ≤ t.heap.size) (h2 : ∀ q : Nat, q < H.size → t.heap[q]? = H[q]?) :
    vx_X (S := Unit) (fun _ => I) (fun E _ t => E = tn_NS ∧ tn_at dC dI tys A ws t) A tn_NS s t :=
  ⟨(), hi, ⟨rfl, hP.kept (fun k q hk => h2 q.1 (hP k q hk).lt), va_K.moved hvm hK, hD⟩, Nat.le_trans hS.1 h1, fun q hq hA => (h2 q (Nat.lt_of_lt_of_le hq hS.1)).trans (hS.2.1 q hq hA)⟩
theorem tn_app_get {α : Type} {a b : List α} {k : Nat} {q : α} (h : (a ++ b)[k]? = some q) : (k < a.length ∧ a[k]? = some q) ∨ (a.length ≤ k ∧ b[k - a.length]? = some q) := by
  rcases Nat.lt_or_ge k a.length with h1 | h1
  · rw [List.getElem?_append_left h1] at h; exact Or.inl ⟨h1, h⟩
  · rw [List.getElem?_append_right h1] at h; exact Or.inr ⟨h1, h⟩
theorem tn_P_l {D : va_G} {cl : List vw_C} {a b : va_W} {H : Heap} (h : va_P D cl (a ++ b) H) : va_P D cl a H := fun k q hk => h k q (by rw [List.getElem?_append_left (List.getElem?_eq_some_iff.mp hk).1]; exact hk)
theorem tn_P_r {D : va_G} {cl : List vw_C} {a b : va_W} {H : Heap} (h : va_P D cl (a ++ b) H) : va_P D cl b H := fun k q hk => h (a.length + k) q (by rw [List.getElem?_append_right (by omega)]; rw [show a.length + k - a.length = k by omega]; exact hk)
theorem tn_D_l {A : Nat → Prop} {a b : va_W} (h : va_D A (a ++ b)) : va_D A a := by
  have e : ∀ (k : Nat) (q : Nat × va_E), a[k]? = some q → (a ++ b)[k]? = some q := fun k q hk => by rw [List.getElem?_append_left (List.getElem?_eq_some_iff.mp hk).1]; exact hk
  exact ⟨fun i j p q hi hj he => h.1 i j p q (e i p hi) (e j q hj) he, fun k q hk => h.2 k q (e k q hk)⟩
theorem tn_D_r {A : Nat → Prop} {a b : va_W} (h : va_D A (a ++ b)) : va_D A b := by
  have e : ∀ (k : Nat) (q : Nat × va_E), b[k]? = some q → (a ++ b)[a.length + k]? = some q := fun k q hk => by rw [List.getElem?_append_right (by omega), show a.length + k - a.length = k by omega]; exact hk
  exact ⟨fun i j p q hi hj he => by have := h.1 _ _ p q (e i p hi) (e j q hj) he; omega, fun k q hk => h.2 _ q (e k q hk)⟩
theorem tn_D_x {A : Nat → Prop} {a b : va_W} (h : va_D A (a ++ b)) : ∀ (i j : Nat) (p q : Nat × va_E), a[i]? = some p → b[j]? = some q → p.1 ≠ q.1 := by
  intro i j p q hi hj he
  have hil := (List.getElem?_eq_some_iff.mp hi).1
  have := h.1 i (a.length + j) p q (by rw [List.getElem?_append_left hil]; exact hi) (by rw [List.getElem?_append_right (by omega), show a.length + j - a.length = j by omega]; exact hj) he
  omega
theorem tn_D_swap {A : Nat → Prop} {a b : va_W} (h : va_D A (a ++ b)) : va_D A (b ++ a) := (tn_D_r h).app (tn_D_l h) (fun i j p q hi hj he => tn_D_x h j i q p hj hi he.symm)
/-- behind a call whose cells were wx: they are wx' now, the rest is as it was -/
theorem tn_side {D : va_G} {cl : List vw_C} {A0 : Nat → Prop} {wx wr wx' : va_W} {H H1 : Heap} (hR : va_P D cl wr H) (hD : va_D A0 (wx ++ wr)) (hk : ∀ q : Nat, q < H.size → ¬ va_A wx H.size q → H1[q]? = H[q]?) (hF : ∀ q, va_A wx H.size q → A0 q) (hD1 : va_D (va_A wx H.size) wx') :
    va_P D cl wr H1 ∧ va_D A0 (wx' ++ wr) := by
  have hn : ∀ (k : Nat) (q : Nat × va_E), wr[k]? = some q → ¬ va_A wx H.size q.1 := by
    intro k q hk2 hA
    rcases hA with ⟨j, e, hj⟩ | hA
    · exact tn_D_x hD j k (q.1, e) q hj hk2 rfl
    · have := (hR k q hk2).lt; omega
  refine ⟨hR.kept (fun k q hk2 => hk q.1 (hR k q hk2).lt (hn k q hk2)), (hD1.weaken (fun _ q _ h => hF q.1 h)).app (tn_D_r hD) (fun i j p q hi hj he => ?_)⟩
  exact hn j q hj (he ▸ hD1.2 i p hi)
end
section
theorem tn_bound_ok {E : Nat → Nat → Int → Prop} {t : Nat} {d : tn_D} (h : tn_mok E t d) {p : Nat} (hp : p < 20) : sp_bound E p t (d.1 p) := by
  rcases h p hp with ⟨q1, q2⟩ | ⟨q1, n, hn, he, hb⟩
  · exact Or.inr ⟨q2, q1⟩
  · exact Or.inl ⟨_, n, hb, rfl⟩
theorem tn_earl_no {E : Nat → Nat → Int → Prop} {d : tn_D} (h : tn_mok E 0 d) {p : Nat} (hp : p < 20) (hm : d.1 p = tn_MX) : sp_earl E p (-9223372036854775808) := Or.inr ⟨tn_mok_n h hp hm, rfl⟩
theorem tn_earl_yes {cnt : Nat} {fp sp : Nat → Nat} {mo : Nat → Int64} {on : Nat → Bool} (g : tn_good cnt fp sp mo) {d : tn_D} (h : tn_mok (tn_E cnt fp sp mo on) 0 d) {p : Nat} (hp : p < 20) (hm : ¬ d.1 p = tn_MX) : sp_earl (tn_E cnt fp sp mo on) p (-d.1 p) := by
  obtain ⟨n, hn, -, hb⟩ := tn_mok_f h hp hm
  have bd := tn_wk_bd (tn_E_bd g) n hb.1
  refine Or.inl ⟨_, n, hb, ?_⟩
  rw [Int64.toInt_neg]
  exact Int.bmod_eq_of_le (by omega) (by omega)
set_option maxHeartbeats 4000000 in
set_option maxRecDepth 100000 in
/-- bound(x, y): it answers, or throws -/
theorem cX0_bound_ok (l : Launch) (dC : Nat → ClassId) (dI : Nat → Nat → Nat) (h a1 a2 a3 a4 a5 a6 a7 : Nat) (cI cL cZ : ClassId) (cnt onc : Nat) (fp sp : Nat → Nat) (mo : Nat → Int64) (on : Nat → Bool) (lf : Nat → Int64) (sf : Nat → Int32) (rp : Nat → Nat) (rs : Nat) (rl : Int64) (sz : Nat) (hst : l.stackTraces = false) (g : tn_good cnt fp sp mo) (ok : tn_ok (tn_E cnt fp sp mo on)) (x y : Int32) : vx_Met l yX0_bound wsX0_bound ({ frames := 6, cells := 1, slots := 6, locals := 81 }) (va_Pc [.ref h, .int x, .int y] (tn_PreX dC dI (tn_tys cI cL cZ) (tn_ws h a1 a2 a3 a4 a5 a6 a7 cI cL cZ cnt onc fp sp mo on lf sf rp rs rl) sz)) (va_Ql (S := tn_D) (fun r _ => ∃ a b, a < 20 ∧ b < 20 ∧ x = nI a ∧ y = nI b ∧ sp_bound (tn_E cnt fp sp mo on) a b r) (fun u t => tn_at dC dI (tn_tys cI cL cZ) (va_A (tn_ws h a1 a2 a3 a4 a5 a6 a7 cI cL cZ cnt onc fp sp mo on lf sf rp rs rl) sz) (tn_ws h a1 a2 a3 a4 a5 a6 a7 cI cL cZ cnt onc fp sp mo on u.1 u.2 rp rs rl) t) (va_A (tn_ws h a1 a2 a3 a4 a5 a6 a7 cI cL cZ cnt onc fp sp mo on lf sf rp rs rl) sz)) (vx_X (S := Unit) (fun _ => ∀ a b, a < 20 → b < 20 → ¬ (x = nI a ∧ y = nI b)) (fun E _ t => E = tn_NS ∧ tn_at dC dI (tn_tys cI cL cZ) (va_A (tn_ws h a1 a2 a3 a4 a5 a6 a7 cI cL cZ cnt onc fp sp mo on lf sf rp rs rl) sz) (tn_ws h a1 a2 a3 a4 a5 a6 a7 cI cL cZ cnt onc fp sp mo on lf sf rp rs rl) t) (va_A (tn_ws h a1 a2 a3 a4 a5 a6 a7 cI cL cZ cnt onc fp sp mo on lf sf rp rs rl) sz)) 1 6 (va_A (tn_ws h a1 a2 a3 a4 a5 a6 a7 cI cL cZ cnt onc fp sp mo on lf sf rp rs rl) sz) := by
  refine vx_ofW (cc := cX0_bound) (maxL := 3) (ret := (some .long)) (by decide) rfl ?_
  intro p e s m args below meth c s₁ B hml hex hv
  obtain ⟨rfl, ⟨hsz, hP, hK, hD0⟩, hfc, hZs⟩ := hv
  have hx := B.exec
  have hb := B.bytes
  have hr := B.returns
  have hts := atoms_spec (ws := wsX0_bound) B.pre
  have hown : s.vm.findClass RX0 = some m.cls := findClass_of_methodNamed B.named
  have hlocks := B.notSynchronized
  subst hsz
  have hD := hD0.self (sz := s.heap.size)
  generalize hAe : va_A (tn_ws h a1 a2 a3 a4 a5 a6 a7 cI cL cZ cnt onc fp sp mo on lf sf rp rs rl) s.heap.size = A at hD hZs ⊢
  have hA : ∀ q : Nat, s.heap.size ≤ q → A q := fun q h => by rw [← hAe]; exact Or.inr h
  have hS : va_S A s.heap s.heap [] := va_S.rf
  have hl := lv_entry ([.ref h, .int x, .int y]) (n := 3) (Nat.le_of_ble_eq_true rfl)
  rw [lg_entry_eq]
  generalize (lg_sl ([.ref h, .int x, .int y]) ++ List.replicate (3 - (lg_sl ([.ref h, .int x, .int y])).length) Slot.unset).toArray = ls at hl ⊢
  have hl : lv_has ls 3 [(0, .ref h), (1, .int x), (2, .int y)] := hl
  have kf24 := hts (.fieldLink RX0 24 "TimeNet" "lengthFrom" "[J") (by decide +kernel)
  have hin : ∀ w ∈ u_ws RX0 TX0 11, w ∈ wsX0_bound := by decide +kernel
  have hc := g.1
  have hwcl : Cond.classLink RX0 54 "java/util/NoSuchElementException" ∈ wsX0_bound := by decide +kernel
  have hwini : Cond.initialized "java/util/NoSuchElementException" ∈ wsX0_bound := by decide +kernel
  have hwat : ∀ w ∈ tn_at0.filter goodWord, w ∈ wsX0_bound := fun w h => List.mem_cons_of_mem _ (List.mem_append_right _ h)
  refine lv_iload_n hx hb dX0_bound_0 rfl (lv_at hl 1 rfl) ?_
  have hF := tn_freeA hD hS hA
  refine va_calli (va_runS (As := [.int x]) (rest := []) ⟨hx, hb, hml, hown, hts⟩ (cX0_isPoint_ok l dC dI h a1 a2 a3 a4 a5 a6 a7 cI cL cZ cnt onc fp sp mo on lf sf rp rs rl s.heap.size x) (va_cwS 1 hts gX0_bound_X0_isPoint rfl rfl rfl (by decide +kernel) ⟨Nat.le_of_ble_eq_true rfl, Nat.le_of_ble_eq_true rfl⟩) (tn_preS hK hP hD) rfl rfl hl.1 rfl (lv_room (Nat.le_of_ble_eq_true rfl)) dX0_bound_1 ⟨Nat.le_of_ble_eq_true rfl, Nat.le_of_ble_eq_true rfl⟩) hS (fun q _ h => hF q h) hF (fun r_1 u_1 t H1 locs ht hvm hw_1 hB hz1 hk1 hS => ?_)
  obtain ⟨hP1, -, hD1⟩ := hB
  rw [ht] at hP1
  have hD := hD1.weaken (fun _ q _ hq => hF q.1 hq)
  clear hP hk1 hF hz1 ht hvm hD1
  generalize H1 = H at hP1 hS ⊢
  have hP := hP1
  clear hP1
  refine lv_if_eq (tgt := 14) hx hb dX0_bound_4 (by decide) (fun c_4 => ?_) (fun c_4 => ?_)
  · skip
    have hn_1 : ∀ j, j < 20 → x ≠ nI j := by
      rcases hw_1 with ⟨q, _⟩ | ⟨_, q⟩
      · exact absurd (q ▸ c_4 : nI 1 = 0) (by decide)
      · exact q
    exact vx_throw0 (cls := tn_NS) (names := ["java/lang/RuntimeException", "java/lang/Exception"]) (A := A) hx hb hst hown (by decide +kernel) (by decide +kernel) (hts (.classLink RX0 54 "java/util/NoSuchElementException") hwcl) (hts (.initialized "java/util/NoSuchElementException") hwini) (vx_hat (fun w h => hts w (hwat w h)) tn_at0_no hfc.use) tn_at0_good hZs.1 hZs.2 hS (hl.1.trans hml.symm) dX0_bound_14 dX0_bound_17 dX0_bound_18 dX0_bound_21 (fun x h => (hex x h).elim) (Nat.le_of_ble_eq_true rfl) (Nat.le_of_ble_eq_true rfl) (Nat.le_of_ble_eq_true rfl) (Nat.le_of_ble_eq_true rfl) hlocks (fun t hvm h1 h2 => tn_xc (fun a b ha _ q => hn_1 a ha q.1) hK hP hD hS hvm h1 h2) hS.2.2 (Nat.le_of_ble_eq_true rfl) (Nat.le_of_ble_eq_true rfl)
  · skip
    obtain ⟨ja, hja, eja⟩ : ∃ j, j < 20 ∧ x = nI j := by
      rcases hw_1 with ⟨_, q⟩ | ⟨q, _⟩
      · exact q
      · exact absurd (q : r_1 = 0) c_4
    subst eja
    refine lv_iload_n hx hb dX0_bound_7 rfl (lv_at hl 2 rfl) ?_
    have hF := tn_freeA hD hS hA
    refine va_calli (va_runS (As := [.int y]) (rest := []) ⟨hx, hb, hml, hown, hts⟩ (cX0_isPoint_ok l dC dI h a1 a2 a3 a4 a5 a6 a7 cI cL cZ cnt onc fp sp mo on lf sf rp rs rl H.size y) (va_cwS 1 hts gX0_bound_X0_isPoint rfl rfl rfl (by decide +kernel) ⟨Nat.le_of_ble_eq_true rfl, Nat.le_of_ble_eq_true rfl⟩) (tn_preS hK hP hD) rfl rfl hl.1 rfl (lv_room (Nat.le_of_ble_eq_true rfl)) dX0_bound_8 ⟨Nat.le_of_ble_eq_true rfl, Nat.le_of_ble_eq_true rfl⟩) hS (fun q _ h => hF q h) hF (fun r_8 u_8 t H1 locs ht hvm hw_8 hB hz1 hk1 hS => ?_)
    obtain ⟨hP1, -, hD1⟩ := hB
    rw [ht] at hP1
    have hD := hD1.weaken (fun _ q _ hq => hF q.1 hq)
    clear hP hk1 hF hz1 ht hvm hD1
    generalize H1 = H at hP1 hS ⊢
    have hP := hP1
    clear hP1
    refine lv_if_ne (tgt := 22) hx hb dX0_bound_11 (by decide) (fun c_11 => ?_) (fun c_11 => ?_)
    · skip
      obtain ⟨jb, hjb, ejb⟩ : ∃ j, j < 20 ∧ y = nI j := by
        rcases hw_8 with ⟨_, q⟩ | ⟨q, _⟩
        · exact q
        · exact absurd (q : r_8 = 0) c_11
      subst ejb
      refine lv_aload_n hx hb dX0_bound_22 rfl (lv_at hl 0 rfl) ?_
      refine lv_iload_n hx hb dX0_bound_23 rfl (lv_at hl 2 rfl) ?_
      have hF := tn_freeA hD hS hA
      refine va_callv (va_runV (As := [.int (nI jb)]) (rest := []) ⟨hx, hb, hml, hown, hts⟩ (cX0_measureTo_ok l dC dI h a1 a2 a3 a4 a5 a6 a7 cI cL cZ cnt onc fp sp mo on lf sf rp rs rl H.size g jb hjb) (cwV 1 hts gX0_bound_X0_measureTo rfl rfl rfl (by decide +kernel) ⟨Nat.le_of_ble_eq_true rfl, Nat.le_of_ble_eq_true rfl⟩) (tn_preV hK hP hD (ci := 0) rfl 0 rfl) rfl rfl hl.1 rfl (lv_room (Nat.le_of_ble_eq_true rfl)) dX0_bound_24 ⟨Nat.le_of_ble_eq_true rfl, Nat.le_of_ble_eq_true rfl⟩) hS (fun q _ h => hF q h) hF (fun u_24 t H1 locs ht hvm hw_24 hB hz1 hk1 hS => ?_)
      obtain ⟨hP1, -, hD1⟩ := hB
      rw [ht] at hP1
      have hD := hD1.weaken (fun _ q _ hq => hF q.1 hq)
      clear hP hk1 hF hz1 ht hvm hD1
      generalize H1 = H at hP1 hS ⊢
      have hP := hP1
      clear hP1
      refine lv_aload_n hx hb dX0_bound_27 rfl (lv_at hl 0 rfl) ?_
      refine va_get (D := (dC, dI)) (ci := 0) (v := .ref a5) (C := RX0) (T := TX0) (N := 11) hx hb hts hin hown hK hP 0 rfl rfl 6 (by decide) kf24 (fun _ h9 => h9) rfl dX0_bound_28 ?_
      refine lv_iload_n hx hb dX0_bound_31 rfl (lv_at hl 1 rfl) ?_
      refine tn_lald (i := ja) (v := u_24.1 ja) hx hb hK hP 5 1 rfl rfl (by omega) (by decide) rfl dX0_bound_32 ?_
      refine W.widen (k := 1) (n := 6) (by omega) (by omega) ?_
      exact vx_ret (W.lret (v := u_24.1 ja) hx hb hr (fun t ht hW => ⟨⟨u_24.1 ja, (u_24.1, u_24.2), rfl, ⟨ja, jb, hja, hjb, rfl, rfl, tn_bound_ok (tn_ms_ok g ok hjb hw_24) hja⟩, by rw [ht]; exact hP, va_K.moved hW.alike hK, hD⟩, hS.F ht⟩) hS.2.2 dX0_bound_33)
    · skip
      have hn_8 : ∀ j, j < 20 → y ≠ nI j := by
        rcases hw_8 with ⟨q, _⟩ | ⟨_, q⟩
        · exact absurd (q ▸ c_11 : nI 1 = 0) (by decide)
        · exact q
      exact vx_throw0 (cls := tn_NS) (names := ["java/lang/RuntimeException", "java/lang/Exception"]) (A := A) hx hb hst hown (by decide +kernel) (by decide +kernel) (hts (.classLink RX0 54 "java/util/NoSuchElementException") hwcl) (hts (.initialized "java/util/NoSuchElementException") hwini) (vx_hat (fun w h => hts w (hwat w h)) tn_at0_no hfc.use) tn_at0_good hZs.1 hZs.2 hS (hl.1.trans hml.symm) dX0_bound_14 dX0_bound_17 dX0_bound_18 dX0_bound_21 (fun x h => (hex x h).elim) (Nat.le_of_ble_eq_true rfl) (Nat.le_of_ble_eq_true rfl) (Nat.le_of_ble_eq_true rfl) (Nat.le_of_ble_eq_true rfl) hlocks (fun t hvm h1 h2 => tn_xc (fun a b _ hb q => hn_8 b hb q.2) hK hP hD hS hvm h1 h2) hS.2.2 (Nat.le_of_ble_eq_true rfl) (Nat.le_of_ble_eq_true rfl)
set_option maxHeartbeats 4000000 in
set_option maxRecDepth 100000 in
/-- earliest(x): it answers, or throws -/
theorem cX0_earliest_ok (l : Launch) (dC : Nat → ClassId) (dI : Nat → Nat → Nat) (h a1 a2 a3 a4 a5 a6 a7 : Nat) (cI cL cZ : ClassId) (cnt onc : Nat) (fp sp : Nat → Nat) (mo : Nat → Int64) (on : Nat → Bool) (lf : Nat → Int64) (sf : Nat → Int32) (rp : Nat → Nat) (rs : Nat) (rl : Int64) (sz : Nat) (hst : l.stackTraces = false) (g : tn_good cnt fp sp mo) (ok : tn_ok (tn_E cnt fp sp mo on)) (x : Int32) : vx_Met l yX0_earliest wsX0_earliest ({ frames := 6, cells := 1, slots := 6, locals := 81 }) (va_Pc [.ref h, .int x] (tn_PreX dC dI (tn_tys cI cL cZ) (tn_ws h a1 a2 a3 a4 a5 a6 a7 cI cL cZ cnt onc fp sp mo on lf sf rp rs rl) sz)) (va_Ql (S := tn_D) (fun r _ => ∃ a, a < 20 ∧ x = nI a ∧ sp_earl (tn_E cnt fp sp mo on) a r) (fun u t => tn_at dC dI (tn_tys cI cL cZ) (va_A (tn_ws h a1 a2 a3 a4 a5 a6 a7 cI cL cZ cnt onc fp sp mo on lf sf rp rs rl) sz) (tn_ws h a1 a2 a3 a4 a5 a6 a7 cI cL cZ cnt onc fp sp mo on u.1 u.2 rp rs rl) t) (va_A (tn_ws h a1 a2 a3 a4 a5 a6 a7 cI cL cZ cnt onc fp sp mo on lf sf rp rs rl) sz)) (vx_X (S := Unit) (fun _ => ∀ a, a < 20 → ¬ x = nI a) (fun E _ t => E = tn_NS ∧ tn_at dC dI (tn_tys cI cL cZ) (va_A (tn_ws h a1 a2 a3 a4 a5 a6 a7 cI cL cZ cnt onc fp sp mo on lf sf rp rs rl) sz) (tn_ws h a1 a2 a3 a4 a5 a6 a7 cI cL cZ cnt onc fp sp mo on lf sf rp rs rl) t) (va_A (tn_ws h a1 a2 a3 a4 a5 a6 a7 cI cL cZ cnt onc fp sp mo on lf sf rp rs rl) sz)) 1 6 (va_A (tn_ws h a1 a2 a3 a4 a5 a6 a7 cI cL cZ cnt onc fp sp mo on lf sf rp rs rl) sz) := by
  refine vx_ofW (cc := cX0_earliest) (maxL := 2) (ret := (some .long)) (by decide) rfl ?_
  intro p e s m args below meth c s₁ B hml hex hv
  obtain ⟨rfl, ⟨hsz, hP, hK, hD0⟩, hfc, hZs⟩ := hv
  have hx := B.exec
  have hb := B.bytes
  have hr := B.returns
  have hts := atoms_spec (ws := wsX0_earliest) B.pre
  have hown : s.vm.findClass RX0 = some m.cls := findClass_of_methodNamed B.named
  have hlocks := B.notSynchronized
  subst hsz
  have hD := hD0.self (sz := s.heap.size)
  generalize hAe : va_A (tn_ws h a1 a2 a3 a4 a5 a6 a7 cI cL cZ cnt onc fp sp mo on lf sf rp rs rl) s.heap.size = A at hD hZs ⊢
  have hA : ∀ q : Nat, s.heap.size ≤ q → A q := fun q h => by rw [← hAe]; exact Or.inr h
  have hS : va_S A s.heap s.heap [] := va_S.rf
  have hl := lv_entry ([.ref h, .int x]) (n := 2) (Nat.le_of_ble_eq_true rfl)
  rw [lg_entry_eq]
  generalize (lg_sl ([.ref h, .int x]) ++ List.replicate (2 - (lg_sl ([.ref h, .int x])).length) Slot.unset).toArray = ls at hl ⊢
  have hl : lv_has ls 2 [(0, .ref h), (1, .int x)] := hl
  have kf24 := hts (.fieldLink RX0 24 "TimeNet" "lengthFrom" "[J") (by decide +kernel)
  have kc75 := hts (.constantLong RX0 75 (9223372036854775807)) (by decide +kernel)
  have kc77 := hts (.constantLong RX0 77 (-9223372036854775808)) (by decide +kernel)
  have hin : ∀ w ∈ u_ws RX0 TX0 11, w ∈ wsX0_earliest := by decide +kernel
  have hc := g.1
  have hwcl : Cond.classLink RX0 54 "java/util/NoSuchElementException" ∈ wsX0_earliest := by decide +kernel
  have hwini : Cond.initialized "java/util/NoSuchElementException" ∈ wsX0_earliest := by decide +kernel
  have hwat : ∀ w ∈ tn_at0.filter goodWord, w ∈ wsX0_earliest := fun w h => List.mem_cons_of_mem _ (List.mem_append_right _ h)
  refine lv_iload_n hx hb dX0_earliest_0 rfl (lv_at hl 1 rfl) ?_
  have hF := tn_freeA hD hS hA
  refine va_calli (va_runS (As := [.int x]) (rest := []) ⟨hx, hb, hml, hown, hts⟩ (cX0_isPoint_ok l dC dI h a1 a2 a3 a4 a5 a6 a7 cI cL cZ cnt onc fp sp mo on lf sf rp rs rl s.heap.size x) (va_cwS 1 hts gX0_earliest_X0_isPoint rfl rfl rfl (by decide +kernel) ⟨Nat.le_of_ble_eq_true rfl, Nat.le_of_ble_eq_true rfl⟩) (tn_preS hK hP hD) rfl rfl hl.1 rfl (lv_room (Nat.le_of_ble_eq_true rfl)) dX0_earliest_1 ⟨Nat.le_of_ble_eq_true rfl, Nat.le_of_ble_eq_true rfl⟩) hS (fun q _ h => hF q h) hF (fun r_1 u_1 t H1 locs ht hvm hw_1 hB hz1 hk1 hS => ?_)
  obtain ⟨hP1, -, hD1⟩ := hB
  rw [ht] at hP1
  have hD := hD1.weaken (fun _ q _ hq => hF q.1 hq)
  clear hP hk1 hF hz1 ht hvm hD1
  generalize H1 = H at hP1 hS ⊢
  have hP := hP1
  clear hP1
  refine lv_if_ne (tgt := 15) hx hb dX0_earliest_4 (by decide) (fun c_4 => ?_) (fun c_4 => ?_)
  · skip
    obtain ⟨ja, hja, eja⟩ : ∃ j, j < 20 ∧ x = nI j := by
      rcases hw_1 with ⟨_, q⟩ | ⟨q, _⟩
      · exact q
      · exact absurd (q : r_1 = 0) c_4
    subst eja
    refine lv_aload_n hx hb dX0_earliest_15 rfl (lv_at hl 0 rfl) ?_
    refine lv_iconst (v := nI 0) hx hb dX0_earliest_16 (by decide) ?_
    have hF := tn_freeA hD hS hA
    refine va_callv (va_runV (As := [.int (nI 0)]) (rest := []) ⟨hx, hb, hml, hown, hts⟩ (cX0_measureTo_ok l dC dI h a1 a2 a3 a4 a5 a6 a7 cI cL cZ cnt onc fp sp mo on lf sf rp rs rl H.size g 0 (by omega)) (cwV 1 hts gX0_earliest_X0_measureTo rfl rfl rfl (by decide +kernel) ⟨Nat.le_of_ble_eq_true rfl, Nat.le_of_ble_eq_true rfl⟩) (tn_preV hK hP hD (ci := 0) rfl 0 rfl) rfl rfl hl.1 rfl (lv_room (Nat.le_of_ble_eq_true rfl)) dX0_earliest_17 ⟨Nat.le_of_ble_eq_true rfl, Nat.le_of_ble_eq_true rfl⟩) hS (fun q _ h => hF q h) hF (fun u_17 t H1 locs ht hvm hw_17 hB hz1 hk1 hS => ?_)
    obtain ⟨hP1, -, hD1⟩ := hB
    rw [ht] at hP1
    have hD := hD1.weaken (fun _ q _ hq => hF q.1 hq)
    clear hP hk1 hF hz1 ht hvm hD1
    generalize H1 = H at hP1 hS ⊢
    have hP := hP1
    clear hP1
    refine lv_aload_n hx hb dX0_earliest_20 rfl (lv_at hl 0 rfl) ?_
    refine va_get (D := (dC, dI)) (ci := 0) (v := .ref a5) (C := RX0) (T := TX0) (N := 11) hx hb hts hin hown hK hP 0 rfl rfl 6 (by decide) kf24 (fun _ h9 => h9) rfl dX0_earliest_21 ?_
    refine lv_iload_n hx hb dX0_earliest_24 rfl (lv_at hl 1 rfl) ?_
    refine tn_lald (i := ja) (v := u_17.1 ja) hx hb hK hP 5 1 rfl rfl (by omega) (by decide) rfl dX0_earliest_25 ?_
    refine lv_ldc2 (v := 9223372036854775807) hx hb hown kc75 dX0_earliest_26 ?_
    refine tn_lc_ne (x := (u_17.1 ja)) (y := 9223372036854775807) (tgt := 39) hx hb dX0_earliest_29 dX0_earliest_30 (by decide) (fun c_29 => ?_) (fun c_29 => ?_)
    · skip
      refine lv_aload_n hx hb dX0_earliest_39 rfl (lv_at hl 0 rfl) ?_
      refine va_get (D := (dC, dI)) (ci := 0) (v := .ref a5) (C := RX0) (T := TX0) (N := 11) hx hb hts hin hown hK hP 0 rfl rfl 6 (by decide) kf24 (fun _ h9 => h9) rfl dX0_earliest_40 ?_
      refine lv_iload_n hx hb dX0_earliest_43 rfl (lv_at hl 1 rfl) ?_
      refine tn_lald (i := ja) (v := u_17.1 ja) hx hb hK hP 5 1 rfl rfl (by omega) (by decide) rfl dX0_earliest_44 ?_
      refine lv_lneg hx hb dX0_earliest_45 ?_
      refine W.widen (k := 1) (n := 6) (by omega) (by omega) ?_
      exact vx_ret (W.lret (v := -(u_17.1 ja)) hx hb hr (fun t ht hW => ⟨⟨-(u_17.1 ja), (u_17.1, u_17.2), rfl, ⟨ja, hja, rfl, tn_earl_yes g (tn_ms_ok g ok (by omega) hw_17) hja c_29⟩, by rw [ht]; exact hP, va_K.moved hW.alike hK, hD⟩, hS.F ht⟩) hS.2.2 dX0_earliest_46)
    · skip
      refine lv_ldc2 (v := (-9223372036854775808)) hx hb hown kc77 dX0_earliest_33 ?_
      refine lv_goto (tgt := 46) hx hb dX0_earliest_36 (by decide) ?_
      refine W.widen (k := 1) (n := 6) (by omega) (by omega) ?_
      exact vx_ret (W.lret (v := (-9223372036854775808)) hx hb hr (fun t ht hW => ⟨⟨(-9223372036854775808), (u_17.1, u_17.2), rfl, ⟨ja, hja, rfl, tn_earl_no (tn_ms_ok g ok (by omega) hw_17) hja c_29⟩, by rw [ht]; exact hP, va_K.moved hW.alike hK, hD⟩, hS.F ht⟩) hS.2.2 dX0_earliest_46)
  · skip
    have hn_1 : ∀ j, j < 20 → x ≠ nI j := by
      rcases hw_1 with ⟨q, _⟩ | ⟨_, q⟩
      · exact absurd (q ▸ c_4 : nI 1 = 0) (by decide)
      · exact q
    exact vx_throw0 (cls := tn_NS) (names := ["java/lang/RuntimeException", "java/lang/Exception"]) (A := A) hx hb hst hown (by decide +kernel) (by decide +kernel) (hts (.classLink RX0 54 "java/util/NoSuchElementException") hwcl) (hts (.initialized "java/util/NoSuchElementException") hwini) (vx_hat (fun w h => hts w (hwat w h)) tn_at0_no hfc.use) tn_at0_good hZs.1 hZs.2 hS (hl.1.trans hml.symm) dX0_earliest_7 dX0_earliest_10 dX0_earliest_11 dX0_earliest_14 (fun x h => (hex x h).elim) (Nat.le_of_ble_eq_true rfl) (Nat.le_of_ble_eq_true rfl) (Nat.le_of_ble_eq_true rfl) (Nat.le_of_ble_eq_true rfl) hlocks (fun t hvm h1 h2 => tn_xc (fun a ha q => hn_1 a ha q) hK hP hD hS hvm h1 h2) hS.2.2 (Nat.le_of_ble_eq_true rfl) (Nat.le_of_ble_eq_true rfl)
end
section
/-! THE REFERENCE'S OWN WAY: the least length of each number of steps -/
theorem tn_isub2 {p : Program} {l : Launch} {e : Env} {R : Room} {s : State} {m : MethodId} {args : Array Value} {below : List Frame} {meth : Method} {c : Code} {H : Heap} {locs : List Loc} {cells slots : Nat} {Q : State → Prop} {cc : ByteArray} {pc : Nat} {ls : Array Slot} {rest : List Value} (hx : p.tables.exec = Jvm.exec) (hb : c.code = cc) {a b d : Nat} (h : a = d + b) (hdg : decode cc pc = .ok (.isub, 1))
    (k : W p l e R s m args below meth c H locs cells slots Q (F0 m (pc + 1) ls (.int (nI d) :: rest))) : W p l e R s m args below meth c H locs cells slots Q (F0 m pc ls (.int (nI b) :: .int (nI a) :: rest)) :=
  lv_isub hx hb hdg (by rw [pk_sub (by omega), show a - b = d by omega]; exact k)
/-- level s of the table is right: the least length of the walks of s steps to t -/
def tm_rw (E : Nat → Nat → Int → Prop) (t s : Nat) (le : Nat → Int64) : Prop := ∀ v, v < 20 → (le (20 * s + v) = tn_MX ∧ ∀ L, ¬ tn_wk E s v t L) ∨ (le (20 * s + v) ≠ tn_MX ∧ tn_wk E s v t (le (20 * s + v)).toInt ∧ ∀ L, tn_wk E s v t L → (le (20 * s + v)).toInt ≤ L)
theorem tm_rw_keep {E : Nat → Nat → Int → Prop} {t s : Nat} {le le' : Nat → Int64} (h : tm_rw E t s le) (hk : ∀ v, v < 20 → le' (20 * s + v) = le (20 * s + v)) : tm_rw E t s le' := by
  intro v hv
  rw [hk v hv]; exact h v hv
/-- walks of s + 1 steps whose first constraint is one of the first k -/
def tm_pw (E F : Nat → Nat → Int → Prop) (t s v : Nat) (L : Int) : Prop := ∃ (q : Nat) (c : Int), F v q c ∧ tn_wk E s q t (L - c)
def tm_rk (E F : Nat → Nat → Int → Prop) (t s : Nat) (le : Nat → Int64) : Prop := ∀ v, v < 20 → (le (20 * (s + 1) + v) = tn_MX ∧ ∀ L, ¬ tm_pw E F t s v L) ∨ (le (20 * (s + 1) + v) ≠ tn_MX ∧ tm_pw E F t s v (le (20 * (s + 1) + v)).toInt ∧ ∀ L, tm_pw E F t s v L → (le (20 * (s + 1) + v)).toInt ≤ L)
theorem tm_rk_done {E : Nat → Nat → Int → Prop} {t s : Nat} {le : Nat → Int64} (h : tm_rk E E t s le) : tm_rw E t (s + 1) le := fun v hv => h v hv
theorem tm_rk_0 {E : Nat → Nat → Int → Prop} {fp sp : Nat → Nat} {mo : Nat → Int64} {on : Nat → Bool} {t s : Nat} {le : Nat → Int64} (h : ∀ v, v < 20 → le (20 * (s + 1) + v) = tn_MX) : tm_rk E (tn_E 0 fp sp mo on) t s le := by
  intro v hv
  refine Or.inl ⟨h v hv, ?_⟩
  rintro L ⟨q, c, ⟨k, hk, -⟩, -⟩
  exact absurd hk (by omega)
theorem tm_E_s {k : Nat} {fp sp : Nat → Nat} {mo : Nat → Int64} {on : Nat → Bool} {i j : Nat} {c : Int} : tn_E (k + 1) fp sp mo on i j c ↔ tn_E k fp sp mo on i j c ∨ (on k = true ∧ fp k = i ∧ sp k = j ∧ (mo k).toInt = c) := by
  constructor
  · rintro ⟨z, hz, h1, h2, h3, h4⟩
    rcases Nat.lt_or_ge z k with h | h
    · exact Or.inl ⟨z, h, h1, h2, h3, h4⟩
    · have : z = k := by omega
      subst this
      exact Or.inr ⟨h1, h2, h3, h4⟩
  · rintro (⟨z, hz, h⟩ | h)
    · exact ⟨z, by omega, h⟩
    · exact ⟨k, by omega, h⟩
/-- a constraint that brings nothing -/
theorem tm_rk_no {E : Nat → Nat → Int → Prop} {k : Nat} {fp sp : Nat → Nat} {mo : Nat → Int64} {on : Nat → Bool} {t s : Nat} {le : Nat → Int64} (h : tm_rk E (tn_E k fp sp mo on) t s le) (hn : ∀ L, on k = true → tn_wk E s (sp k) t (L - (mo k).toInt) → le (20 * (s + 1) + fp k) ≠ tn_MX ∧ (le (20 * (s + 1) + fp k)).toInt ≤ L) : tm_rk E (tn_E (k + 1) fp sp mo on) t s le := by
  intro v hv
  rcases h v hv with ⟨h1, h2⟩ | ⟨h1, ⟨q, c, hE, w⟩, h3⟩
  · refine Or.inl ⟨h1, ?_⟩
    rintro L ⟨q, c, hE, w⟩
    rcases tm_E_s.mp hE with hE | ⟨o, rfl, rfl, rfl⟩
    · exact h2 L ⟨q, c, hE, w⟩
    · exact (hn L o w).1 h1
  · refine Or.inr ⟨h1, ⟨q, c, tm_E_s.mpr (Or.inl hE), w⟩, ?_⟩
    rintro L ⟨q, c, hE, w⟩
    rcases tm_E_s.mp hE with hE | ⟨o, rfl, rfl, rfl⟩
    · exact h3 L ⟨q, c, hE, w⟩
    · exact (hn L o w).2
theorem tm_skip_off {E : Nat → Nat → Int → Prop} {k : Nat} {fp sp : Nat → Nat} {mo : Nat → Int64} {on : Nat → Bool} {t s : Nat} {le : Nat → Int64} (h : tm_rk E (tn_E k fp sp mo on) t s le) (ho : on k = false) : tm_rk E (tn_E (k + 1) fp sp mo on) t s le :=
  tm_rk_no h (fun L q => by rw [ho] at q; exact absurd q (by decide))
theorem tm_skip_far {E : Nat → Nat → Int → Prop} {k : Nat} {fp sp : Nat → Nat} {mo : Nat → Int64} {on : Nat → Bool} {t s : Nat} {le : Nat → Int64} (h : tm_rk E (tn_E k fp sp mo on) t s le) (hl : tm_rw E t s le) (hs : sp k < 20) (hm : le (20 * s + sp k) = tn_MX) : tm_rk E (tn_E (k + 1) fp sp mo on) t s le :=
  tm_rk_no h (fun L _ w => by
    rcases hl (sp k) hs with ⟨-, q⟩ | ⟨q, -⟩
    · exact absurd w (q _)
    · exact absurd hm q)
/-- the sum that is compared -/
theorem tm_sum {cnt : Nat} {fp sp : Nat → Nat} {mo : Nat → Int64} {on : Nat → Bool} {t s k : Nat} {le : Nat → Int64} (g : tn_good cnt fp sp mo) (hk : k < cnt) (hs20 : s ≤ 20) (hl : tm_rw (tn_E cnt fp sp mo on) t s le) (hm : le (20 * s + sp k) ≠ tn_MX) :
    (mo k + le (20 * s + sp k)).toInt = (mo k).toInt + (le (20 * s + sp k)).toInt ∧ mo k + le (20 * s + sp k) ≠ tn_MX ∧ tn_wk (tn_E cnt fp sp mo on) s (sp k) t (le (20 * s + sp k)).toInt ∧ ∀ L, tn_wk (tn_E cnt fp sp mo on) s (sp k) t L → (le (20 * s + sp k)).toInt ≤ L := by
  have hg := g.2 k hk
  rcases hl (sp k) hg.2.1 with ⟨q, -⟩ | ⟨-, w, q⟩
  · exact absurd q hm
  · have bd := tn_wk_bd (tn_E_bd g) s w
    have e := tn_addI (a := mo k) (b := le (20 * s + sp k)) (by omega) (by omega) (by omega) (by omega)
    exact ⟨e, tn_neMX (by omega), w, q⟩
theorem tm_skip_ge {cnt : Nat} {fp sp : Nat → Nat} {mo : Nat → Int64} {on : Nat → Bool} {t s k : Nat} {le : Nat → Int64} (g : tn_good cnt fp sp mo) (hk : k < cnt) (hs20 : s ≤ 20) (hl : tm_rw (tn_E cnt fp sp mo on) t s le) (h : tm_rk (tn_E cnt fp sp mo on) (tn_E k fp sp mo on) t s le) (hm : le (20 * s + sp k) ≠ tn_MX) (hge : le (20 * (s + 1) + fp k) ≤ mo k + le (20 * s + sp k)) : tm_rk (tn_E cnt fp sp mo on) (tn_E (k + 1) fp sp mo on) t s le := by
  obtain ⟨e, ne, w, q⟩ := tm_sum g hk hs20 hl hm
  have hge' := Int64.le_iff_toInt_le.mp hge
  have bd := tn_wk_bd (tn_E_bd g) s w
  have hg := g.2 k hk
  refine tm_rk_no h (fun L _ w2 => ⟨fun hx => ?_, ?_⟩)
  · rw [hx, tn_MXI, e] at hge'; omega
  · have := q _ w2; omega
theorem tm_take {cnt : Nat} {fp sp : Nat → Nat} {mo : Nat → Int64} {on : Nat → Bool} {t s k : Nat} {le : Nat → Int64} (g : tn_good cnt fp sp mo) (hk : k < cnt) (ho : on k = true) (hs20 : s ≤ 20) (hl : tm_rw (tn_E cnt fp sp mo on) t s le) (h : tm_rk (tn_E cnt fp sp mo on) (tn_E k fp sp mo on) t s le) (hm : le (20 * s + sp k) ≠ tn_MX) (hlt : ¬ le (20 * (s + 1) + fp k) ≤ mo k + le (20 * s + sp k)) : tm_rk (tn_E cnt fp sp mo on) (tn_E (k + 1) fp sp mo on) t s (vp_updL le (20 * (s + 1) + fp k) (mo k + le (20 * s + sp k))) := by
  obtain ⟨e, ne, w, q⟩ := tm_sum g hk hs20 hl hm
  rw [Int64.le_iff_toInt_le] at hlt
  intro v hv
  by_cases hvk : v = fp k
  · subst hvk
    have ev : vp_updL le (20 * (s + 1) + fp k) (mo k + le (20 * s + sp k)) (20 * (s + 1) + fp k) = mo k + le (20 * s + sp k) := pk_uLs
    rw [ev]
    refine Or.inr ⟨ne, ⟨sp k, (mo k).toInt, tm_E_s.mpr (Or.inr ⟨ho, rfl, rfl, rfl⟩), by rw [e, show (mo k).toInt + (le (20 * s + sp k)).toInt - (mo k).toInt = (le (20 * s + sp k)).toInt by omega]; exact w⟩, ?_⟩
    rintro L ⟨q2, c, hE, w2⟩
    rcases tm_E_s.mp hE with hE | ⟨o, -, rfl, rfl⟩
    · rcases h (fp k) hv with ⟨-, h2⟩ | ⟨-, -, h3⟩
      · exact absurd ⟨q2, c, hE, w2⟩ (h2 L)
      · have := h3 L ⟨q2, c, hE, w2⟩; omega
    · have := q _ w2; omega
  · have ev : vp_updL le (20 * (s + 1) + fp k) (mo k + le (20 * s + sp k)) (20 * (s + 1) + v) = le (20 * (s + 1) + v) := pk_uLn (by omega)
    rw [ev]
    rcases h v hv with ⟨h1, h2⟩ | ⟨h1, ⟨q2, c, hE, w2⟩, h3⟩
    · refine Or.inl ⟨h1, ?_⟩
      rintro L ⟨q2, c, hE, w2⟩
      rcases tm_E_s.mp hE with hE | ⟨o, e1, -, -⟩
      · exact h2 L ⟨q2, c, hE, w2⟩
      · exact hvk e1.symm
    · refine Or.inr ⟨h1, ⟨q2, c, tm_E_s.mpr (Or.inl hE), w2⟩, ?_⟩
      rintro L ⟨q3, c3, hE, w3⟩
      rcases tm_E_s.mp hE with hE | ⟨o, e1, -, -⟩
      · exact h3 L ⟨q3, c3, hE, w3⟩
      · exact absurd e1.symm hvk
/-- the table is right as far as level 20, and what was read off it -/
def tm_lv (E : Nat → Nat → Int → Prop) (t : Nat) (le : Nat → Int64) : Prop := ∀ s, s ≤ 20 → tm_rw E t s le
def tm_sc (le : Nat → Int64) (i s : Nat) (bl : Int64) (bs : Int32) : Prop := (∀ z, z < s → bl ≤ le (20 * z + i)) ∧ ((bs = -1 ∧ bl = tn_MX) ∨ ∃ z, z < s ∧ bs = nI z ∧ bl = le (20 * z + i) ∧ bl ≠ tn_MX ∧ ∀ y, y < z → ¬ le (20 * y + i) ≤ bl)
theorem tm_MXle (a : Int64) : a ≤ tn_MX := by
  rw [Int64.le_iff_toInt_le, tn_MXI]
  have := Int64.toInt_lt a
  omega
theorem tm_sc_0 {le : Nat → Int64} {i : Nat} : tm_sc le i 0 tn_MX (-1) := ⟨fun z h => absurd h (by omega), Or.inl ⟨rfl, rfl⟩⟩
theorem tm_sc_take {le : Nat → Int64} {i s : Nat} {bl : Int64} {bs : Int32} (h : tm_sc le i s bl bs) (hlt : ¬ bl ≤ le (20 * s + i)) : tm_sc le i (s + 1) (le (20 * s + i)) (nI s) := by
  have hlt' : le (20 * s + i) < bl := Int64.not_le.mp hlt
  refine ⟨fun z hz => ?_, Or.inr ⟨s, by omega, rfl, rfl, fun q => hlt (by rw [q]; exact tm_MXle bl), fun y hy q => hlt (Int64.le_trans (h.1 y hy) q)⟩⟩
  rcases Nat.lt_or_ge z s with q | q
  · exact Int64.le_trans (Int64.le_of_lt hlt') (h.1 z q)
  · have : z = s := by omega
    subst this
    exact Int64.le_refl _
theorem tm_sc_skip {le : Nat → Int64} {i s : Nat} {bl : Int64} {bs : Int32} (h : tm_sc le i s bl bs) (hge : bl ≤ le (20 * s + i)) : tm_sc le i (s + 1) bl bs := by
  refine ⟨fun z hz => ?_, ?_⟩
  · rcases Nat.lt_or_ge z s with q | q
    · exact h.1 z q
    · have : z = s := by omega
      subst this
      exact hge
  · rcases h.2 with q | ⟨z, hz, q⟩
    · exact Or.inl q
    · exact Or.inr ⟨z, by omega, q⟩
/-- what 'best' answers and leaves -/
def tm_bok (E : Nat → Nat → Int → Prop) (i t : Nat) (le : Nat → Int64) (bl : Int64) (bs : Int32) (r : Int32) : Prop :=
  tm_lv E t le ∧ ((r = nI 0 ∧ bs = -1 ∧ bl = tn_MX ∧ ∀ n L, ¬ tn_wk E n i t L) ∨ (r = nI 1 ∧ ∃ n, n ≤ 19 ∧ bs = nI n ∧ bl = le (20 * n + i) ∧ bl ≠ tn_MX ∧ tn_best E i t bl.toInt n))
theorem tm_fin {E : Nat → Nat → Int → Prop} (hE : ∀ i j c, E i j c → i < 20 ∧ j < 20) (ok : tn_ok E) {i t : Nat} (hi : i < 20) {le : Nat → Int64} (hl : tm_lv E t le) {bl : Int64} {bs : Int32} (h : tm_sc le i 21 bl bs) :
    (bs = -1 ∧ bl = tn_MX ∧ ∀ n L, ¬ tn_wk E n i t L) ∨ (∃ n, n ≤ 19 ∧ bs = nI n ∧ bl = le (20 * n + i) ∧ bl ≠ tn_MX ∧ tn_best E i t bl.toInt n) := by
  have hle : ∀ n L, tn_wk E n i t L → ∃ n' L', n' ≤ 19 ∧ n' ≤ n ∧ L' ≤ L ∧ tn_wk E n' i t L' ∧ le (20 * n' + i) ≠ tn_MX ∧ (le (20 * n' + i)).toInt ≤ L' := by
    intro n L w
    obtain ⟨n', L', h1, h2, h3, h4⟩ := tn_cut hE ok n i t L w
    rcases hl n' (by omega) i hi with ⟨-, q⟩ | ⟨q1, -, q2⟩
    · exact absurd h4 (q _)
    · exact ⟨n', L', h1, h2, h3, h4, q1, q2 _ h4⟩
  rcases h.2 with ⟨h1, h2⟩ | ⟨z, hz, h1, h2, h3, h4⟩
  · refine Or.inl ⟨h1, h2, fun n L w => ?_⟩
    obtain ⟨n', L', k1, k2, k3, k4, k5, k6⟩ := hle n L w
    have := h.1 n' (by omega)
    rw [h2] at this
    exact k5 (Int64.le_antisymm (tm_MXle _) this)
  · rcases hl z (by omega) i hi with ⟨q, -⟩ | ⟨-, w, q⟩
    · exact absurd (h2.trans q) h3
    · have hb : tn_best E i t bl.toInt z := by
        refine ⟨by rw [h2]; exact w, fun m M w2 => ?_⟩
        obtain ⟨n', L', k1, k2, k3, k4, k5, k6⟩ := hle m M w2
        have a1 := Int64.le_iff_toInt_le.mp (h.1 n' (by omega))
        rcases Nat.lt_or_ge n' z with a2 | a2
        · have a3 := h4 n' a2
          rw [Int64.le_iff_toInt_le] at a3
          unfold tn_le; omega
        · unfold tn_le; omega
      exact Or.inr ⟨z, tn_best_small hE ok hb, h1, h2, h3, hb⟩
theorem tm_fin_pos {n : Nat} (hn : n ≤ 20) : ¬ nI n < 0 := nI_pos (by omega)
/-- one step's least length -/
def tm_st (k : Nat) (fp sp : Nat → Nat) (mo : Nat → Int64) (on : Nat → Bool) (v u : Nat) (r : Int64) : Prop := (r = tn_MX ∧ ∀ c, ¬ tn_E k fp sp mo on v u c) ∨ (r ≠ tn_MX ∧ tn_E k fp sp mo on v u r.toInt ∧ ∀ c, tn_E k fp sp mo on v u c → r.toInt ≤ c)
theorem tm_st_0 {fp sp : Nat → Nat} {mo : Nat → Int64} {on : Nat → Bool} {v u : Nat} : tm_st 0 fp sp mo on v u tn_MX := Or.inl ⟨rfl, fun c ⟨z, hz, _⟩ => absurd hz (by omega)⟩
theorem tm_st_skip {k : Nat} {fp sp : Nat → Nat} {mo : Nat → Int64} {on : Nat → Bool} {v u : Nat} {r : Int64} (h : tm_st k fp sp mo on v u r) (hn : on k = true → fp k = v → sp k = u → r ≠ tn_MX ∧ r.toInt ≤ (mo k).toInt) : tm_st (k + 1) fp sp mo on v u r := by
  rcases h with ⟨h1, h2⟩ | ⟨h1, h2, h3⟩
  · refine Or.inl ⟨h1, fun c hE => ?_⟩
    rcases tm_E_s.mp hE with hE | ⟨o, a, b, d⟩
    · exact h2 c hE
    · exact (hn o a b).1 h1
  · refine Or.inr ⟨h1, tm_E_s.mpr (Or.inl h2), fun c hE => ?_⟩
    rcases tm_E_s.mp hE with hE | ⟨o, a, b, d⟩
    · exact h3 c hE
    · rw [← d]; exact (hn o a b).2
theorem tm_st_take {k : Nat} {fp sp : Nat → Nat} {mo : Nat → Int64} {on : Nat → Bool} {v u : Nat} {r : Int64} (h : tm_st k fp sp mo on v u r) (ho : on k = true) (hf : fp k = v) (hs : sp k = u) (hm : mo k ≠ tn_MX) (hlt : ¬ r ≤ mo k) : tm_st (k + 1) fp sp mo on v u (mo k) := by
  rw [Int64.le_iff_toInt_le] at hlt
  refine Or.inr ⟨hm, tm_E_s.mpr (Or.inr ⟨ho, hf, hs, rfl⟩), fun c hE => ?_⟩
  rcases tm_E_s.mp hE with hE | ⟨o, a, b, d⟩
  · rcases h with ⟨-, h2⟩ | ⟨-, -, h3⟩
    · exact absurd hE (h2 c)
    · have := h3 c hE; omega
  · omega
theorem tm_st_eq {k : Nat} {fp sp : Nat → Nat} {mo : Nat → Int64} {on : Nat → Bool} {v u : Nat} {r r' : Int64} (h : tm_st k fp sp mo on v u r) (h' : tm_st k fp sp mo on v u r') : r = r' := by
  rcases h with ⟨h1, h2⟩ | ⟨h1, h2, h3⟩ <;> rcases h' with ⟨k1, k2⟩ | ⟨k1, k2, k3⟩
  · rw [h1, k1]
  · exact absurd k2 (h2 _)
  · exact absurd h2 (k2 _)
  · exact Int64.toInt_inj.mp (by have := h3 _ k2; have := k3 _ h2; omega)
/-- the test of 'walk' is the test for the next point -/
theorem tm_nx_iff {cnt : Nat} {fp sp : Nat → Nat} {mo : Nat → Int64} {on : Nat → Bool} (g : tn_good cnt fp sp mo) {t s v u : Nat} (hs : s + 1 ≤ 20) (hv : v < 20) (hu : u < 20) {le : Nat → Int64} (hl : tm_lv (tn_E cnt fp sp mo on) t le) (hm : le (20 * (s + 1) + v) ≠ tn_MX) (hb : tn_best (tn_E cnt fp sp mo on) v t (le (20 * (s + 1) + v)).toInt (s + 1)) {r : Int64} (hr : tm_st cnt fp sp mo on v u r) :
    tn_nx (tn_E cnt fp sp mo on) t v u ↔ (r ≠ tn_MX ∧ le (20 * s + u) ≠ tn_MX ∧ r + le (20 * s + u) = le (20 * (s + 1) + v)) := by
  have hlu := hl s (by omega) u hu
  have hbd : ∀ c, tn_E cnt fp sp mo on v u c → -1000000000000 ≤ c ∧ c ≤ 1000000000000 := fun c h => tn_E_bd g _ _ _ h
  constructor
  · rintro ⟨c, L, n, hE, h1, h2⟩
    obtain ⟨e1, e2⟩ := tn_best_eq h1 hb
    have e2 : n = s := by omega
    subst e2
    rcases hr with ⟨-, q⟩ | ⟨r1, r2, r3⟩
    · exact absurd hE (q c)
    · rcases hlu with ⟨-, q⟩ | ⟨q1, q2, q3⟩
      · exact absurd h2.1 (q L)
      · have a1 := q3 L h2.1
        have a2 := h2.2 _ _ q2
        have a3 := r3 c hE
        have a4 := hb.2 _ _ (tn_wk_cons r2 q2)
        have b1 := hbd _ r2
        have b2 := tn_wk_bd (tn_E_bd g) n q2
        refine ⟨r1, q1, Int64.toInt_inj.mp ?_⟩
        rw [tn_addI (by omega) (by omega) (by omega) (by omega)]
        unfold tn_le at a2 a4; omega
  · rintro ⟨r1, q1, e⟩
    rcases hr with ⟨q, -⟩ | ⟨-, r2, r3⟩
    · exact absurd q r1
    · rcases hlu with ⟨q, -⟩ | ⟨-, q2, q3⟩
      · exact absurd q q1
      · have b1 := hbd _ r2
        have b2 := tn_wk_bd (tn_E_bd g) s q2
        have e' : r.toInt + (le (20 * s + u)).toInt = (le (20 * (s + 1) + v)).toInt := by
          rw [← e, tn_addI (by omega) (by omega) (by omega) (by omega)]
        refine ⟨r.toInt, (le (20 * s + u)).toInt, s, r2, by rw [e']; exact hb, q2, fun m M w => ?_⟩
        have := hb.2 _ _ (tn_wk_cons r2 w)
        unfold tn_le at this ⊢; omega
/-- the next point has its level's entry, and is best there -/
theorem tm_nx_go {cnt : Nat} {fp sp : Nat → Nat} {mo : Nat → Int64} {on : Nat → Bool} {t s v u : Nat} (hs : s ≤ 20) (hu : u < 20) {le : Nat → Int64} (hl : tm_lv (tn_E cnt fp sp mo on) t le) {L : Int} (hb : tn_best (tn_E cnt fp sp mo on) v t L (s + 1)) (h : tn_nx (tn_E cnt fp sp mo on) t v u) : le (20 * s + u) ≠ tn_MX ∧ tn_best (tn_E cnt fp sp mo on) u t (le (20 * s + u)).toInt s := by
  obtain ⟨c, M, n, hE, h1, h2⟩ := h
  obtain ⟨e1, e2⟩ := tn_best_eq h1 hb
  have e2 : n = s := by omega
  subst e2
  rcases hl n hs u hu with ⟨-, q⟩ | ⟨q1, q2, q3⟩
  · exact absurd h2.1 (q M)
  · have a1 := q3 M h2.1
    have a2 := h2.2 _ _ q2
    have e3 : (le (20 * n + u)).toInt = M := by unfold tn_le at a2; omega
    exact ⟨q1, by rw [e3]; exact h2⟩
end
section
theorem tm_rw_0 {E : Nat → Nat → Int → Prop} {t : Nat} {le : Nat → Int64} (h : ∀ w, w < 20 → le w = if w = t then 0 else tn_MX) : tm_rw E t 0 le := by
  intro v hv
  have e := h v hv
  rw [show 20 * 0 + v = v by omega]
  by_cases hvt : v = t
  · rw [if_pos hvt] at e
    rw [e]
    refine Or.inr ⟨by decide, ⟨hvt, by decide⟩, ?_⟩
    rintro L ⟨-, rfl⟩
    decide
  · rw [if_neg hvt] at e
    refine Or.inl ⟨e, ?_⟩
    rintro L ⟨q, -⟩
    exact hvt q
theorem tm_keepU {E : Nat → Nat → Int → Prop} {t s' sv x : Nat} {le : Nat → Int64} {y : Int64} (h : tm_rw E t s' le) (hs : s' ≤ sv) (hx : 20 * (sv + 1) ≤ x) : tm_rw E t s' (vp_updL le x y) := tm_rw_keep h (fun v hv => pk_uLn (by omega))
theorem tm_fin0 {A B : Prop} {bs : Int32} {P : Nat → Prop} (h : (bs = -1 ∧ A) ∨ (∃ n, n ≤ 19 ∧ bs = nI n ∧ P n)) (hb : bs < 0) : bs = -1 ∧ A := by
  rcases h with h | ⟨n, hn, e, -⟩
  · exact h
  · exact absurd (e ▸ hb) (nI_pos (by omega))
theorem tm_fin1 {A : Prop} {bs : Int32} {P : Nat → Prop} (h : (bs = -1 ∧ A) ∨ (∃ n, n ≤ 19 ∧ bs = nI n ∧ P n)) (hb : ¬ bs < 0) : ∃ n, n ≤ 19 ∧ bs = nI n ∧ P n := by
  rcases h with ⟨e, -⟩ | h
  · exact absurd (by rw [e]; decide) hb
  · exact h
theorem tm_bp_s {E : Nat → Nat → Int → Prop} {t m i a u v : Nat} {f : Nat → Nat} (h : tn_bp E t m i f a) (he : f (a + m) = v) (hn : tn_nxl E t v u) : tn_bp E t (m + 1) i (va_up f (a + 1 + m) u) a := by
  have e : ∀ s, s ≤ m → va_up f (a + 1 + m) u (a + s) = f (a + s) := fun s hs => by simp [va_up, show ¬ a + s = a + 1 + m by omega]
  have e2 : va_up f (a + 1 + m) u (a + m + 1) = u := by simp [va_up, show a + m + 1 = a + 1 + m by omega]
  refine ⟨(e 0 (by omega)).trans h.1, fun s hs => ?_⟩
  rcases Nat.lt_or_ge s m with q | q
  · rw [e s (by omega), show a + s + 1 = a + (s + 1) by omega, e (s + 1) (by omega)]
    exact h.2 s q
  · have : s = m := by omega
    subst this
    rw [e s (by omega), e2, he]; exact hn
theorem tm_least {E : Nat → Nat → Int → Prop} {t v s : Nat} {L : Int} (hE : ∀ i j c, E i j c → i < 20 ∧ j < 20) (hb : tn_best E v t L (s + 1)) : ∃ q, q < 20 ∧ tn_nxl E t v q := by
  obtain ⟨q, hq, hl⟩ := pk_least (fun q => tn_nx E t v q) (tn_nx_ex hb)
  have hq20 : q < 20 := by
    obtain ⟨c, L, n, he, -⟩ := id hq
    exact (hE _ _ _ he).2
  refine ⟨q, hq20, hq, fun q' hq' => ?_⟩
  rcases Nat.lt_or_ge q' q with h | h
  · exact absurd hq' (hl q' h)
  · exact h
theorem tm_nMX {x : Int64} {r : Int64} (hx : x.toInt ≤ 1000000000000) (h : r ≤ x) : r ≠ tn_MX ∧ r.toInt ≤ x.toInt := by
  have := Int64.le_iff_toInt_le.mp h
  exact ⟨tn_neMX (by omega), this⟩
theorem tm_ref_no {E : Nat → Nat → Int → Prop} {i j : Nat} {le : Nat → Int64} {bl : Int64} {bs r : Int32} {c : Int64} (hE : ∀ i j c, E i j c → -1000000000000 ≤ c ∧ c ≤ 1000000000000) (h1 : -1000000000000 ≤ c.toInt) (h2 : c.toInt ≤ 1000000000000) (h : tm_bok E j i le bl bs r) (hc : r = nI 0 ∨ (r = nI 1 ∧ ¬ c + bl < 0)) : ∀ n L, tn_wk E n j i L → 0 ≤ L + c.toInt := by
  intro n L w
  rcases h.2 with ⟨-, -, -, q⟩ | ⟨e, m, hm, -, -, -, hb⟩
  · exact absurd w (q n L)
  · rcases hc with hc | ⟨-, hc⟩
    · exact absurd (e.symm.trans hc) (by decide)
    · have hc := tn_nnegI hc
      have bd := tn_wk_bd hE m hb.1
      rw [tn_addI (by omega) (by omega) (by omega) (by omega)] at hc
      have := hb.2 _ _ w
      unfold tn_le at this; omega
theorem tm_ref_yes {E : Nat → Nat → Int → Prop} {i j n0 : Nat} {bl : Int64} {c : Int64} (hE : ∀ i j c, E i j c → -1000000000000 ≤ c ∧ c ≤ 1000000000000) (h1 : -1000000000000 ≤ c.toInt) (h2 : c.toInt ≤ 1000000000000) (hn0 : n0 ≤ 19) (hb : tn_best E j i bl.toInt n0) (hc : c + bl < 0) (rp : Nat → Nat) (rs : Nat) (rl : Int64) {f : Nat → Nat} {z : Nat} (hf : tn_bp E i n0 j f 1) (hz : z = 1 + 1 + n0) (h0 : f 0 = i) : sp_ref E i j c.toInt (nI 1) rp rs rl f z (c + bl) := by
  have bd := tn_wk_bd hE n0 hb.1
  have e := tn_addI (a := c) (b := bl) (by omega) (by omega) (by omega) (by omega)
  have hn := tn_negI hc
  rw [e] at hn
  exact Or.inl ⟨_, n0, hb, by omega, hn0, rfl, by omega, h0, hf, by rw [e]; omega⟩
end
section
theorem tm_fill {sv v : Nat} {le : Nat → Int64} (h : ∀ z, z < v → le (20 * (sv + 1) + z) = tn_MX) : ∀ z, z < v + 1 → vp_updL le (20 * (sv + 1) + v) tn_MX (20 * (sv + 1) + z) = tn_MX := by
  intro z hz
  rcases Nat.lt_or_ge z v with q | q
  · exact (pk_uLn (by omega)).trans (h z q)
  · have : z = v := by omega
    subst this
    exact pk_uLs
theorem tm_A0 {v j : Nat} {le : Nat → Int64} {x : Int64} (h : ∀ z, z < v → le z = if z = j then 0 else tn_MX) (hx : x = if v = j then 0 else tn_MX) : ∀ z, z < v + 1 → vp_updL le v x z = if z = j then 0 else tn_MX := by
  intro z hz
  rcases Nat.lt_or_ge z v with q | q
  · exact (pk_uLn (by omega)).trans (h z q)
  · have : z = v := by omega
    subst this
    exact pk_uLs.trans hx
set_option maxHeartbeats 4000000 in
set_option maxRecDepth 100000 in
/-- isPoint(x): whether x is one of 0 .. 19 -/
theorem cX1_isPoint_ok (l : Launch) (dC : Nat → ClassId) (dI : Nat → Nat → Nat) (h b1 b2 b3 b4 b5 b6 : Nat) (cI cL cZ : ClassId) (th cnt : Nat) (fp sp : Nat → Nat) (mo : Nat → Int64) (on : Nat → Bool) (rs : Nat) (rw : Nat → Nat) (rl : Int64) (le : Nat → Int64) (bl : Int64) (bs : Int32) (sz : Nat) (x : Int32) : Met l yX1_isPoint wsX1_isPoint ({ frames := 0, cells := 0, slots := 0, locals := 0 }) (va_Pc [.int x] (tn_Pre dC dI (tn_tys cI cL cZ) (tm_ws h b1 b2 b3 b4 b5 b6 cI cL cZ th cnt fp sp mo on rs rw rl le bl bs) sz)) (va_Qi (S := Unit) (fun r _ => (r = nI 1 ∧ ∃ j, j < 20 ∧ x = nI j) ∨ (r = nI 0 ∧ ∀ j, j < 20 → x ≠ nI j)) (fun u t => tn_at dC dI (tn_tys cI cL cZ) (va_A (tm_ws h b1 b2 b3 b4 b5 b6 cI cL cZ th cnt fp sp mo on rs rw rl le bl bs) sz) (tm_ws h b1 b2 b3 b4 b5 b6 cI cL cZ th cnt fp sp mo on rs rw rl le bl bs) t) (va_A (tm_ws h b1 b2 b3 b4 b5 b6 cI cL cZ th cnt fp sp mo on rs rw rl le bl bs) sz)) 0 0 (va_A (tm_ws h b1 b2 b3 b4 b5 b6 cI cL cZ th cnt fp sp mo on rs rw rl le bl bs) sz) := by
  refine Met.ofW (cc := cX1_isPoint) (maxL := 1) (ret := (some .boolean)) (by decide) rfl ?_
  intro p e s m args below meth c s₁ B hml hv
  obtain ⟨rfl, hsz, hP, hK, hD0⟩ := hv
  have hx := B.exec
  have hb := B.bytes
  have hr := B.returns
  have hts := atoms_spec (ws := wsX1_isPoint) B.pre
  have hown : s.vm.findClass RX1 = some m.cls := findClass_of_methodNamed B.named
  have hlocks := B.notSynchronized
  subst hsz
  have hD := hD0.self (sz := s.heap.size)
  generalize hAe : va_A (tm_ws h b1 b2 b3 b4 b5 b6 cI cL cZ th cnt fp sp mo on rs rw rl le bl bs) s.heap.size = A at hD ⊢
  have hA : ∀ q : Nat, s.heap.size ≤ q → A q := fun q h => by rw [← hAe]; exact Or.inr h
  have hS : va_S A s.heap s.heap [] := va_S.rf
  have hl := lv_entry ([.int x]) (n := 1) (Nat.le_of_ble_eq_true rfl)
  rw [lg_entry_eq]
  generalize (lg_sl ([.int x]) ++ List.replicate (1 - (lg_sl ([.int x])).length) Slot.unset).toArray = ls at hl ⊢
  have hl : lv_has ls 1 [(0, .int x)] := hl
  refine lv_iload_n hx hb dX1_isPoint_0 rfl (lv_at hl 0 rfl) ?_
  refine lv_if_lt (tgt := 14) hx hb dX1_isPoint_1 (by decide) (fun c_1 => ?_) (fun c_1 => ?_)
  · skip
    refine lv_iconst (v := nI 0) hx hb dX1_isPoint_14 (by decide) ?_
    exact W.zret (v := nI 0) hx hb hr rfl (fun t ht hW => ⟨⟨nI 0, (), rfl, Or.inr ⟨rfl, tn_ix2 c_1 (by decide)⟩, by rw [ht]; exact hP, va_K.moved hW.alike hK, hD⟩, hS.F ht⟩) hS.2.2 dX1_isPoint_15
  · skip
    refine lv_iload_n hx hb dX1_isPoint_4 rfl (lv_at hl 0 rfl) ?_
    refine lv_bipush (v := nI 20) hx hb dX1_isPoint_5 (by decide) ?_
    refine lv_icmp_ge (tgt := 14) hx hb dX1_isPoint_7 (by decide) (fun c_7 => ?_) (fun c_7 => ?_)
    · skip
      refine lv_iconst (v := nI 0) hx hb dX1_isPoint_14 (by decide) ?_
      exact W.zret (v := nI 0) hx hb hr rfl (fun t ht hW => ⟨⟨nI 0, (), rfl, Or.inr ⟨rfl, tn_ix3 c_7 (by decide)⟩, by rw [ht]; exact hP, va_K.moved hW.alike hK, hD⟩, hS.F ht⟩) hS.2.2 dX1_isPoint_15
    · skip
      refine lv_iconst (v := nI 1) hx hb dX1_isPoint_10 (by decide) ?_
      refine lv_goto (tgt := 15) hx hb dX1_isPoint_11 (by decide) ?_
      exact W.zret (v := nI 1) hx hb hr rfl (fun t ht hW => ⟨⟨nI 1, (), rfl, Or.inl ⟨rfl, tn_ix1 c_1 c_7 (by decide)⟩, by rw [ht]; exact hP, va_K.moved hW.alike hK, hD⟩, hS.F ht⟩) hS.2.2 dX1_isPoint_15
set_option maxHeartbeats 4000000 in
set_option maxRecDepth 100000 in
/-- isThere(x): whether x is the number of a constraint -/
theorem cX1_isThere_ok (l : Launch) (dC : Nat → ClassId) (dI : Nat → Nat → Nat) (h b1 b2 b3 b4 b5 b6 : Nat) (cI cL cZ : ClassId) (th cnt : Nat) (fp sp : Nat → Nat) (mo : Nat → Int64) (on : Nat → Bool) (rs : Nat) (rw : Nat → Nat) (rl : Int64) (le : Nat → Int64) (bl : Int64) (bs : Int32) (sz : Nat) (hc : cnt ≤ 120) (x : Int32) : Met l yX1_isThere wsX1_isThere ({ frames := 0, cells := 0, slots := 0, locals := 0 }) (va_Pc [.ref h, .int x] (tn_Pre dC dI (tn_tys cI cL cZ) (tm_ws h b1 b2 b3 b4 b5 b6 cI cL cZ th cnt fp sp mo on rs rw rl le bl bs) sz)) (va_Qi (S := Unit) (fun r _ => (r = nI 1 ∧ ∃ j, j < cnt ∧ x = nI j) ∨ (r = nI 0 ∧ ∀ j, j < cnt → x ≠ nI j)) (fun u t => tn_at dC dI (tn_tys cI cL cZ) (va_A (tm_ws h b1 b2 b3 b4 b5 b6 cI cL cZ th cnt fp sp mo on rs rw rl le bl bs) sz) (tm_ws h b1 b2 b3 b4 b5 b6 cI cL cZ th cnt fp sp mo on rs rw rl le bl bs) t) (va_A (tm_ws h b1 b2 b3 b4 b5 b6 cI cL cZ th cnt fp sp mo on rs rw rl le bl bs) sz)) 0 0 (va_A (tm_ws h b1 b2 b3 b4 b5 b6 cI cL cZ th cnt fp sp mo on rs rw rl le bl bs) sz) := by
  refine Met.ofW (cc := cX1_isThere) (maxL := 2) (ret := (some .boolean)) (by decide) rfl ?_
  intro p e s m args below meth c s₁ B hml hv
  obtain ⟨rfl, hsz, hP, hK, hD0⟩ := hv
  have hx := B.exec
  have hb := B.bytes
  have hr := B.returns
  have hts := atoms_spec (ws := wsX1_isThere) B.pre
  have hown : s.vm.findClass RX1 = some m.cls := findClass_of_methodNamed B.named
  have hlocks := B.notSynchronized
  subst hsz
  have hD := hD0.self (sz := s.heap.size)
  generalize hAe : va_A (tm_ws h b1 b2 b3 b4 b5 b6 cI cL cZ th cnt fp sp mo on rs rw rl le bl bs) s.heap.size = A at hD ⊢
  have hA : ∀ q : Nat, s.heap.size ≤ q → A q := fun q h => by rw [← hAe]; exact Or.inr h
  have hS : va_S A s.heap s.heap [] := va_S.rf
  have hl := lv_entry ([.ref h, .int x]) (n := 2) (Nat.le_of_ble_eq_true rfl)
  rw [lg_entry_eq]
  generalize (lg_sl ([.ref h, .int x]) ++ List.replicate (2 - (lg_sl ([.ref h, .int x])).length) Slot.unset).toArray = ls at hl ⊢
  have hl : lv_has ls 2 [(0, .ref h), (1, .int x)] := hl
  have kf34 := hts (.fieldLink RX1 34 "TimeNetModel" "size" "I") (by decide +kernel)
  have hin : ∀ w ∈ u_ws RX1 TX1 12, w ∈ wsX1_isThere := by decide +kernel
  refine lv_iload_n hx hb dX1_isThere_0 rfl (lv_at hl 1 rfl) ?_
  refine lv_if_lt (tgt := 16) hx hb dX1_isThere_1 (by decide) (fun c_1 => ?_) (fun c_1 => ?_)
  · skip
    refine lv_iconst (v := nI 0) hx hb dX1_isThere_16 (by decide) ?_
    exact W.zret (v := nI 0) hx hb hr rfl (fun t ht hW => ⟨⟨nI 0, (), rfl, Or.inr ⟨rfl, tn_ix2 c_1 (by omega)⟩, by rw [ht]; exact hP, va_K.moved hW.alike hK, hD⟩, hS.F ht⟩) hS.2.2 dX1_isThere_17
  · skip
    refine lv_iload_n hx hb dX1_isThere_4 rfl (lv_at hl 1 rfl) ?_
    refine lv_aload_n hx hb dX1_isThere_5 rfl (lv_at hl 0 rfl) ?_
    refine va_get (D := (dC, dI)) (ci := 1) (v := .int (nI cnt)) (C := RX1) (T := TX1) (N := 12) hx hb hts hin hown hK hP 0 rfl rfl 1 (by decide) kf34 (fun _ h9 => h9) rfl dX1_isThere_6 ?_
    refine lv_icmp_ge (tgt := 16) hx hb dX1_isThere_9 (by decide) (fun c_9 => ?_) (fun c_9 => ?_)
    · skip
      refine lv_iconst (v := nI 0) hx hb dX1_isThere_16 (by decide) ?_
      exact W.zret (v := nI 0) hx hb hr rfl (fun t ht hW => ⟨⟨nI 0, (), rfl, Or.inr ⟨rfl, tn_ix3 c_9 (by omega)⟩, by rw [ht]; exact hP, va_K.moved hW.alike hK, hD⟩, hS.F ht⟩) hS.2.2 dX1_isThere_17
    · skip
      refine lv_iconst (v := nI 1) hx hb dX1_isThere_12 (by decide) ?_
      refine lv_goto (tgt := 17) hx hb dX1_isThere_13 (by decide) ?_
      exact W.zret (v := nI 1) hx hb hr rfl (fun t ht hW => ⟨⟨nI 1, (), rfl, Or.inl ⟨rfl, tn_ix1 c_1 c_9 (by omega)⟩, by rw [ht]; exact hP, va_K.moved hW.alike hK, hD⟩, hS.F ht⟩) hS.2.2 dX1_isThere_17
set_option maxHeartbeats 4000000 in
set_option maxRecDepth 100000 in
/-- step(v, w): the least c of what is on from v to w -/
theorem cX1_step_ok (l : Launch) (dC : Nat → ClassId) (dI : Nat → Nat → Nat) (h b1 b2 b3 b4 b5 b6 : Nat) (cI cL cZ : ClassId) (th cnt : Nat) (fp sp : Nat → Nat) (mo : Nat → Int64) (on : Nat → Bool) (rs : Nat) (rw : Nat → Nat) (rl : Int64) (le : Nat → Int64) (bl : Int64) (bs : Int32) (sz : Nat) (g : tn_good cnt fp sp mo) (v : Nat) (hv : v < 20) (w : Nat) (hw : w < 20) : Met l yX1_step wsX1_step ({ frames := 0, cells := 0, slots := 0, locals := 0 }) (va_Pc [.ref h, .int (nI v), .int (nI w)] (tn_Pre dC dI (tn_tys cI cL cZ) (tm_ws h b1 b2 b3 b4 b5 b6 cI cL cZ th cnt fp sp mo on rs rw rl le bl bs) sz)) (va_Ql (S := Unit) (fun r _ => tm_st cnt fp sp mo on v w r) (fun u t => tn_at dC dI (tn_tys cI cL cZ) (va_A (tm_ws h b1 b2 b3 b4 b5 b6 cI cL cZ th cnt fp sp mo on rs rw rl le bl bs) sz) (tm_ws h b1 b2 b3 b4 b5 b6 cI cL cZ th cnt fp sp mo on rs rw rl le bl bs) t) (va_A (tm_ws h b1 b2 b3 b4 b5 b6 cI cL cZ th cnt fp sp mo on rs rw rl le bl bs) sz)) 0 0 (va_A (tm_ws h b1 b2 b3 b4 b5 b6 cI cL cZ th cnt fp sp mo on rs rw rl le bl bs) sz) := by
  refine Met.ofW (cc := cX1_step) (maxL := 6) (ret := (some .long)) (by decide) rfl ?_
  intro p e s m args below meth c s₁ B hml hv
  obtain ⟨rfl, hsz, hP, hK, hD0⟩ := hv
  have hx := B.exec
  have hb := B.bytes
  have hr := B.returns
  have hts := atoms_spec (ws := wsX1_step) B.pre
  have hown : s.vm.findClass RX1 = some m.cls := findClass_of_methodNamed B.named
  have hlocks := B.notSynchronized
  subst hsz
  have hD := hD0.self (sz := s.heap.size)
  generalize hAe : va_A (tm_ws h b1 b2 b3 b4 b5 b6 cI cL cZ th cnt fp sp mo on rs rw rl le bl bs) s.heap.size = A at hD ⊢
  have hA : ∀ q : Nat, s.heap.size ≤ q → A q := fun q h => by rw [← hAe]; exact Or.inr h
  have hS : va_S A s.heap s.heap [] := va_S.rf
  have hl := lv_entry ([.ref h, .int (nI v), .int (nI w)]) (n := 6) (Nat.le_of_ble_eq_true rfl)
  rw [lg_entry_eq]
  generalize (lg_sl ([.ref h, .int (nI v), .int (nI w)]) ++ List.replicate (6 - (lg_sl ([.ref h, .int (nI v), .int (nI w)])).length) Slot.unset).toArray = ls at hl ⊢
  have hl : lv_has ls 6 [(0, .ref h), (1, .int (nI v)), (2, .int (nI w))] := hl
  have kc37 := hts (.constantLong RX1 37 (9223372036854775807)) (by decide +kernel)
  have kf34 := hts (.fieldLink RX1 34 "TimeNetModel" "size" "I") (by decide +kernel)
  have kf20 := hts (.fieldLink RX1 20 "TimeNetModel" "isOn" "[Z") (by decide +kernel)
  have kf7 := hts (.fieldLink RX1 7 "TimeNetModel" "first" "[I") (by decide +kernel)
  have kf13 := hts (.fieldLink RX1 13 "TimeNetModel" "second" "[I") (by decide +kernel)
  have kf16 := hts (.fieldLink RX1 16 "TimeNetModel" "c" "[J") (by decide +kernel)
  have hin : ∀ w ∈ u_ws RX1 TX1 12, w ∈ wsX1_step := by decide +kernel
  have hc := g.1
  have loop : ∀ (n : Nat) (k : Nat) (rr : Int64) (H : Heap) (locs : List Loc) (ls : Array Slot), (k ≤ cnt) → (cnt < k + n) → (tm_st k fp sp mo on v w rr) → va_P (dC, dI) vwCl (tm_ws h b1 b2 b3 b4 b5 b6 cI cL cZ th cnt fp sp mo on rs rw rl le bl bs) H → va_D A (tm_ws h b1 b2 b3 b4 b5 b6 cI cL cZ th cnt fp sp mo on rs rw rl le bl bs) → va_S A s.heap H locs → lv_has ls 6 [(0, .ref h), (1, .int (nI v)), (2, .int (nI w)), (3, .long rr), (5, .int (nI k))] → W p l e (headSpec wsX1_step ({ frames := 0, cells := 0, slots := 0, locals := 0 })).room s m ([.ref h, .int (nI v), .int (nI w)] : List Value).toArray below meth c H locs 0 0 (MQ below (va_Ql (S := Unit) (fun r _ => tm_st cnt fp sp mo on v w r) (fun u t => tn_at dC dI (tn_tys cI cL cZ) A (tm_ws h b1 b2 b3 b4 b5 b6 cI cL cZ th cnt fp sp mo on rs rw rl le bl bs) t) A) (([.ref h, .int (nI v), .int (nI w)] : List Value).toArray) s 0 0 A) (F0 m 7 ls []) := by
    intro n
    induction n with
    | zero => intro k rr H locs ls hk1 hk2 hst _ _ _ _; exact absurd hk2 (by omega)
    | succ n ih_loop =>
      intro k rr H locs ls hk1 hk2 hst hP hD hS hl
      refine lv_iload hx hb dX1_step_7 (lv_at hl 4 rfl) ?_
      refine lv_aload_n hx hb dX1_step_9 rfl (lv_at hl 0 rfl) ?_
      refine va_get (D := (dC, dI)) (ci := 1) (v := .int (nI cnt)) (C := RX1) (T := TX1) (N := 12) hx hb hts hin hown hK hP 0 rfl rfl 1 (by decide) kf34 (fun _ h9 => h9) rfl dX1_step_10 ?_
      refine lv_icmp_ge (tgt := 78) hx hb dX1_step_13 (by decide) (fun c_13 => ?_) (fun c_13 => ?_)
      · skip
        have hkc : k = cnt := Nat.le_antisymm hk1 ((nI_leI (by omega) (by omega)).mp c_13)
        subst hkc
        refine lv_lload_n hx hb dX1_step_78 rfl (lv_at hl 3 rfl) ?_
        exact W.lret (v := rr) hx hb hr (fun t ht hW => ⟨⟨rr, (), rfl, hst, by rw [ht]; exact hP, va_K.moved hW.alike hK, hD⟩, hS.F ht⟩) hS.2.2 dX1_step_79
      · skip
        have hkc : k < cnt := Nat.lt_of_not_le (fun q => c_13 (nI_le q (by omega)))
        have hk3 := (g.2 k hkc)
        refine lv_aload_n hx hb dX1_step_16 rfl (lv_at hl 0 rfl) ?_
        refine va_get (D := (dC, dI)) (ci := 1) (v := .ref b4) (C := RX1) (T := TX1) (N := 12) hx hb hts hin hown hK hP 0 rfl rfl 5 (by decide) kf20 (fun _ h9 => h9) rfl dX1_step_17 ?_
        refine lv_iload hx hb dX1_step_20 (lv_at hl 4 rfl) ?_
        refine tn_zald (i := k) (v := tn_b (on k)) hx hb hK hP 4 2 rfl rfl (by omega) (by decide) rfl dX1_step_22 ?_
        refine lv_if_eq (tgt := 70) hx hb dX1_step_23 (by decide) (fun c_23 => ?_) (fun c_23 => ?_)
        · skip
          have ho := tn_b_eq0 c_23
          refine lv_lload_n hx hb dX1_step_70 rfl (lv_at hl 3 rfl) ?_
          refine lv_lstore_n (lv' := [(3, .long rr), (0, .ref h), (1, .int (nI v)), (2, .int (nI w)), (5, .int (nI k))]) hx hb dX1_step_71 rfl hl (by decide) rfl (fun ls hl => ?_)
          refine lv_iinc (v := nI (k + 1)) (lv' := [(5, .int (nI (k + 1))), (3, .long rr), (0, .ref h), (1, .int (nI v)), (2, .int (nI w))]) hx hb dX1_step_72 hl (k := 4) rfl (tn_inc k) (by decide) rfl (fun ls hl => ?_)
          refine lv_goto (tgt := 7) hx hb dX1_step_75 (by decide) ?_
          exact ih_loop (k + 1) rr _ _ _ hkc (by omega) (tm_st_skip hst (fun q => by rw [ho] at q; exact absurd q (by decide))) hP hD hS (lv_sub hl [2, 3, 4, 1, 0] rfl)
        · skip
          have ho := tn_b_ne0 c_23
          refine lv_aload_n hx hb dX1_step_26 rfl (lv_at hl 0 rfl) ?_
          refine va_get (D := (dC, dI)) (ci := 1) (v := .ref b1) (C := RX1) (T := TX1) (N := 12) hx hb hts hin hown hK hP 0 rfl rfl 2 (by decide) kf7 (fun _ h9 => h9) rfl dX1_step_27 ?_
          refine lv_iload hx hb dX1_step_30 (lv_at hl 4 rfl) ?_
          refine tn_iald (i := k) (v := nI (fp k)) hx hb hK hP 1 0 rfl rfl (by omega) (by decide) rfl dX1_step_32 ?_
          refine lv_iload_n hx hb dX1_step_33 rfl (lv_at hl 1 rfl) ?_
          refine lv_icmp_ne (tgt := 70) hx hb dX1_step_34 (by decide) (fun c_34 => ?_) (fun c_34 => ?_)
          · skip
            have hf : fp k ≠ v := fun q => c_34 (by rw [q])
            refine lv_lload_n hx hb dX1_step_70 rfl (lv_at hl 3 rfl) ?_
            refine lv_lstore_n (lv' := [(3, .long rr), (0, .ref h), (1, .int (nI v)), (2, .int (nI w)), (5, .int (nI k))]) hx hb dX1_step_71 rfl hl (by decide) rfl (fun ls hl => ?_)
            refine lv_iinc (v := nI (k + 1)) (lv' := [(5, .int (nI (k + 1))), (3, .long rr), (0, .ref h), (1, .int (nI v)), (2, .int (nI w))]) hx hb dX1_step_72 hl (k := 4) rfl (tn_inc k) (by decide) rfl (fun ls hl => ?_)
            refine lv_goto (tgt := 7) hx hb dX1_step_75 (by decide) ?_
            exact ih_loop (k + 1) rr _ _ _ hkc (by omega) (tm_st_skip hst (fun _ q => absurd q hf)) hP hD hS (lv_sub hl [2, 3, 4, 1, 0] rfl)
          · skip
            have hf : fp k = v := (nI_eq (by omega) (by omega)).mp c_34
            refine lv_aload_n hx hb dX1_step_37 rfl (lv_at hl 0 rfl) ?_
            refine va_get (D := (dC, dI)) (ci := 1) (v := .ref b2) (C := RX1) (T := TX1) (N := 12) hx hb hts hin hown hK hP 0 rfl rfl 3 (by decide) kf13 (fun _ h9 => h9) rfl dX1_step_38 ?_
            refine lv_iload hx hb dX1_step_41 (lv_at hl 4 rfl) ?_
            refine tn_iald (i := k) (v := nI (sp k)) hx hb hK hP 2 0 rfl rfl (by omega) (by decide) rfl dX1_step_43 ?_
            refine lv_iload_n hx hb dX1_step_44 rfl (lv_at hl 2 rfl) ?_
            refine lv_icmp_ne (tgt := 70) hx hb dX1_step_45 (by decide) (fun c_45 => ?_) (fun c_45 => ?_)
            · skip
              have hs : sp k ≠ w := fun q => c_45 (by rw [q])
              refine lv_lload_n hx hb dX1_step_70 rfl (lv_at hl 3 rfl) ?_
              refine lv_lstore_n (lv' := [(3, .long rr), (0, .ref h), (1, .int (nI v)), (2, .int (nI w)), (5, .int (nI k))]) hx hb dX1_step_71 rfl hl (by decide) rfl (fun ls hl => ?_)
              refine lv_iinc (v := nI (k + 1)) (lv' := [(5, .int (nI (k + 1))), (3, .long rr), (0, .ref h), (1, .int (nI v)), (2, .int (nI w))]) hx hb dX1_step_72 hl (k := 4) rfl (tn_inc k) (by decide) rfl (fun ls hl => ?_)
              refine lv_goto (tgt := 7) hx hb dX1_step_75 (by decide) ?_
              exact ih_loop (k + 1) rr _ _ _ hkc (by omega) (tm_st_skip hst (fun _ _ q => absurd q hs)) hP hD hS (lv_sub hl [2, 3, 4, 1, 0] rfl)
            · skip
              have hs : sp k = w := (nI_eq (by omega) (by omega)).mp c_45
              refine lv_aload_n hx hb dX1_step_48 rfl (lv_at hl 0 rfl) ?_
              refine va_get (D := (dC, dI)) (ci := 1) (v := .ref b3) (C := RX1) (T := TX1) (N := 12) hx hb hts hin hown hK hP 0 rfl rfl 4 (by decide) kf16 (fun _ h9 => h9) rfl dX1_step_49 ?_
              refine lv_iload hx hb dX1_step_52 (lv_at hl 4 rfl) ?_
              refine tn_lald (i := k) (v := mo k) hx hb hK hP 3 1 rfl rfl (by omega) (by decide) rfl dX1_step_54 ?_
              refine lv_lload_n hx hb dX1_step_55 rfl (lv_at hl 3 rfl) ?_
              refine tn_lc_ge (x := (mo k)) (y := rr) (tgt := 70) hx hb dX1_step_56 dX1_step_57 (by decide) (fun c_56 => ?_) (fun c_56 => ?_)
              · skip
                refine lv_lload_n hx hb dX1_step_70 rfl (lv_at hl 3 rfl) ?_
                refine lv_lstore_n (lv' := [(3, .long rr), (0, .ref h), (1, .int (nI v)), (2, .int (nI w)), (5, .int (nI k))]) hx hb dX1_step_71 rfl hl (by decide) rfl (fun ls hl => ?_)
                refine lv_iinc (v := nI (k + 1)) (lv' := [(5, .int (nI (k + 1))), (3, .long rr), (0, .ref h), (1, .int (nI v)), (2, .int (nI w))]) hx hb dX1_step_72 hl (k := 4) rfl (tn_inc k) (by decide) rfl (fun ls hl => ?_)
                refine lv_goto (tgt := 7) hx hb dX1_step_75 (by decide) ?_
                exact ih_loop (k + 1) rr _ _ _ hkc (by omega) (tm_st_skip hst (fun _ _ _ => tm_nMX hk3.2.2.2 c_56)) hP hD hS (lv_sub hl [2, 3, 4, 1, 0] rfl)
              · skip
                refine lv_aload_n hx hb dX1_step_60 rfl (lv_at hl 0 rfl) ?_
                refine va_get (D := (dC, dI)) (ci := 1) (v := .ref b3) (C := RX1) (T := TX1) (N := 12) hx hb hts hin hown hK hP 0 rfl rfl 4 (by decide) kf16 (fun _ h9 => h9) rfl dX1_step_61 ?_
                refine lv_iload hx hb dX1_step_64 (lv_at hl 4 rfl) ?_
                refine tn_lald (i := k) (v := mo k) hx hb hK hP 3 1 rfl rfl (by omega) (by decide) rfl dX1_step_66 ?_
                refine lv_goto (tgt := 71) hx hb dX1_step_67 (by decide) ?_
                refine lv_lstore_n (lv' := [(3, .long (mo k)), (0, .ref h), (1, .int (nI v)), (2, .int (nI w)), (5, .int (nI k))]) hx hb dX1_step_71 rfl hl (by decide) rfl (fun ls hl => ?_)
                refine lv_iinc (v := nI (k + 1)) (lv' := [(5, .int (nI (k + 1))), (3, .long (mo k)), (0, .ref h), (1, .int (nI v)), (2, .int (nI w))]) hx hb dX1_step_72 hl (k := 4) rfl (tn_inc k) (by decide) rfl (fun ls hl => ?_)
                refine lv_goto (tgt := 7) hx hb dX1_step_75 (by decide) ?_
                exact ih_loop (k + 1) (mo k) _ _ _ hkc (by omega) (tm_st_take hst ho hf hs (tn_neMX (by omega)) c_56) hP hD hS (lv_sub hl [2, 3, 4, 1, 0] rfl)
  refine lv_ldc2 (v := 9223372036854775807) hx hb hown kc37 dX1_step_0 ?_
  refine lv_lstore_n (lv' := [(3, .long 9223372036854775807), (0, .ref h), (1, .int (nI v)), (2, .int (nI w))]) hx hb dX1_step_3 rfl hl (by decide) rfl (fun ls hl => ?_)
  refine lv_iconst (v := nI 0) hx hb dX1_step_4 (by decide) ?_
  refine lv_istore (lv' := [(5, .int (nI 0)), (3, .long 9223372036854775807), (0, .ref h), (1, .int (nI v)), (2, .int (nI w))]) hx hb dX1_step_5 hl (by decide) rfl (fun ls hl => ?_)
  exact loop (cnt + 1) 0 tn_MX _ _ _ (Nat.zero_le _) (by omega) tm_st_0 hP hD hS (lv_sub hl [2, 3, 4, 1, 0] rfl)
set_option maxHeartbeats 4000000 in
set_option maxRecDepth 100000 in
/-- best(i, j) -/
theorem cX1_best_ok (l : Launch) (dC : Nat → ClassId) (dI : Nat → Nat → Nat) (h b1 b2 b3 b4 b5 b6 : Nat) (cI cL cZ : ClassId) (th cnt : Nat) (fp sp : Nat → Nat) (mo : Nat → Int64) (on : Nat → Bool) (rs : Nat) (rw : Nat → Nat) (rl : Int64) (le : Nat → Int64) (bl : Int64) (bs : Int32) (sz : Nat) (g : tn_good cnt fp sp mo) (ok : tn_ok (tn_E cnt fp sp mo on)) (i : Nat) (hi : i < 20) (j : Nat) (hj : j < 20) : Met l yX1_best wsX1_best ({ frames := 0, cells := 0, slots := 0, locals := 0 }) (va_Pc [.ref h, .int (nI i), .int (nI j)] (tn_Pre dC dI (tn_tys cI cL cZ) (tm_ws h b1 b2 b3 b4 b5 b6 cI cL cZ th cnt fp sp mo on rs rw rl le bl bs) sz)) (va_Qi (S := (Nat → Int64) × Int64 × Int32) (fun r u => tm_bok (tn_E cnt fp sp mo on) i j u.1 u.2.1 u.2.2 r) (fun u t => tn_at dC dI (tn_tys cI cL cZ) (va_A (tm_ws h b1 b2 b3 b4 b5 b6 cI cL cZ th cnt fp sp mo on rs rw rl le bl bs) sz) (tm_ws h b1 b2 b3 b4 b5 b6 cI cL cZ th cnt fp sp mo on rs rw rl u.1 u.2.1 u.2.2) t) (va_A (tm_ws h b1 b2 b3 b4 b5 b6 cI cL cZ th cnt fp sp mo on rs rw rl le bl bs) sz)) 0 0 (va_A (tm_ws h b1 b2 b3 b4 b5 b6 cI cL cZ th cnt fp sp mo on rs rw rl le bl bs) sz) := by
  refine Met.ofW (cc := cX1_best) (maxL := 7) (ret := (some .boolean)) (by decide) rfl ?_
  intro p e s m args below meth c s₁ B hml hv
  obtain ⟨rfl, hsz, hP, hK, hD0⟩ := hv
  have hx := B.exec
  have hb := B.bytes
  have hr := B.returns
  have hts := atoms_spec (ws := wsX1_best) B.pre
  have hown : s.vm.findClass RX1 = some m.cls := findClass_of_methodNamed B.named
  have hlocks := B.notSynchronized
  subst hsz
  have hD := hD0.self (sz := s.heap.size)
  generalize hAe : va_A (tm_ws h b1 b2 b3 b4 b5 b6 cI cL cZ th cnt fp sp mo on rs rw rl le bl bs) s.heap.size = A at hD ⊢
  have hA : ∀ q : Nat, s.heap.size ≤ q → A q := fun q h => by rw [← hAe]; exact Or.inr h
  have hS : va_S A s.heap s.heap [] := va_S.rf
  have hl := lv_entry ([.ref h, .int (nI i), .int (nI j)]) (n := 7) (Nat.le_of_ble_eq_true rfl)
  rw [lg_entry_eq]
  generalize (lg_sl ([.ref h, .int (nI i), .int (nI j)]) ++ List.replicate (7 - (lg_sl ([.ref h, .int (nI i), .int (nI j)])).length) Slot.unset).toArray = ls at hl ⊢
  have hl : lv_has ls 7 [(0, .ref h), (1, .int (nI i)), (2, .int (nI j))] := hl
  have kf27 := hts (.fieldLink RX1 27 "TimeNetModel" "least" "[J") (by decide +kernel)
  have kc37 := hts (.constantLong RX1 37 (9223372036854775807)) (by decide +kernel)
  have kf34 := hts (.fieldLink RX1 34 "TimeNetModel" "size" "I") (by decide +kernel)
  have kf13 := hts (.fieldLink RX1 13 "TimeNetModel" "second" "[I") (by decide +kernel)
  have kf7 := hts (.fieldLink RX1 7 "TimeNetModel" "first" "[I") (by decide +kernel)
  have kf20 := hts (.fieldLink RX1 20 "TimeNetModel" "isOn" "[Z") (by decide +kernel)
  have kf16 := hts (.fieldLink RX1 16 "TimeNetModel" "c" "[J") (by decide +kernel)
  have kf39 := hts (.fieldLink RX1 39 "TimeNetModel" "bestSteps" "I") (by decide +kernel)
  have kf42 := hts (.fieldLink RX1 42 "TimeNetModel" "bestLength" "J") (by decide +kernel)
  have hin : ∀ w ∈ u_ws RX1 TX1 12, w ∈ wsX1_best := by decide +kernel
  have hc := g.1
  have loopE : ∀ (n : Nat) (z : Nat) (le1 : Nat → Int64) (bl1 : Int64) (bs1 : Int32) (H : Heap) (locs : List Loc) (ls : Array Slot), (z ≤ 21) → (21 < z + n) → (tm_lv (tn_E cnt fp sp mo on) j le1) → (tm_sc le1 i z bl1 bs1) → va_P (dC, dI) vwCl (tm_ws h b1 b2 b3 b4 b5 b6 cI cL cZ th cnt fp sp mo on rs rw rl le1 bl1 bs1) H → va_D A (tm_ws h b1 b2 b3 b4 b5 b6 cI cL cZ th cnt fp sp mo on rs rw rl le1 bl1 bs1) → va_S A s.heap H locs → lv_has ls 7 [(0, .ref h), (1, .int (nI i)), (2, .int (nI j)), (3, .int (nI z))] → W p l e (headSpec wsX1_best ({ frames := 0, cells := 0, slots := 0, locals := 0 })).room s m ([.ref h, .int (nI i), .int (nI j)] : List Value).toArray below meth c H locs 0 0 (MQ below (va_Qi (S := (Nat → Int64) × Int64 × Int32) (fun r u => tm_bok (tn_E cnt fp sp mo on) i j u.1 u.2.1 u.2.2 r) (fun u t => tn_at dC dI (tn_tys cI cL cZ) A (tm_ws h b1 b2 b3 b4 b5 b6 cI cL cZ th cnt fp sp mo on rs rw rl u.1 u.2.1 u.2.2) t) A) (([.ref h, .int (nI i), .int (nI j)] : List Value).toArray) s 0 0 A) (F0 m 211 ls []) := by
    intro n
    induction n with
    | zero => intro z le1 bl1 bs1 H locs ls hz1 hz2 hlv hsc _ _ _ _; exact absurd hz2 (by omega)
    | succ n ih_loopE =>
      intro z le1 bl1 bs1 H locs ls hz1 hz2 hlv hsc hP hD hS hl
      refine lv_iload_n hx hb dX1_best_211 rfl (lv_at hl 3 rfl) ?_
      refine lv_bipush (v := nI 20) hx hb dX1_best_212 (by decide) ?_
      refine lv_icmp_gt (tgt := 262) hx hb dX1_best_214 (by decide) (fun c_214 => ?_) (fun c_214 => ?_)
      · skip
        have hz21 : z = 21 := by
          have := (nI_ltI (by omega) (by omega)).mp c_214
          omega
        subst hz21
        refine lv_aload_n hx hb dX1_best_262 rfl (lv_at hl 0 rfl) ?_
        refine va_get (D := (dC, dI)) (ci := 1) (v := .int bs1) (C := RX1) (T := TX1) (N := 12) hx hb hts hin hown hK hP 0 rfl rfl 11 (by decide) kf39 (fun _ h9 => h9) rfl dX1_best_263 ?_
        refine lv_if_lt (tgt := 273) hx hb dX1_best_266 (by decide) (fun c_266 => ?_) (fun c_266 => ?_)
        · skip
          refine lv_iconst (v := nI 0) hx hb dX1_best_273 (by decide) ?_
          exact W.zret (v := nI 0) hx hb hr rfl (fun t ht hW => ⟨⟨nI 0, (le1, bl1, bs1), rfl, ⟨hlv, Or.inl ⟨rfl, tm_fin0 (B := True) (tm_fin (tn_E_in g) ok hi hlv hsc) c_266⟩⟩, by rw [ht]; exact hP, va_K.moved hW.alike hK, hD⟩, hS.F ht⟩) hS.2.2 dX1_best_274
        · skip
          refine lv_iconst (v := nI 1) hx hb dX1_best_269 (by decide) ?_
          refine lv_goto (tgt := 274) hx hb dX1_best_270 (by decide) ?_
          exact W.zret (v := nI 1) hx hb hr rfl (fun t ht hW => ⟨⟨nI 1, (le1, bl1, bs1), rfl, ⟨hlv, Or.inr ⟨rfl, tm_fin1 (tm_fin (tn_E_in g) ok hi hlv hsc) c_266⟩⟩, by rw [ht]; exact hP, va_K.moved hW.alike hK, hD⟩, hS.F ht⟩) hS.2.2 dX1_best_274
      · skip
        have hz21 : z ≤ 20 := Nat.le_of_not_lt (fun q => c_214 (nI_lt q (by omega)))
        refine lv_aload_n hx hb dX1_best_217 rfl (lv_at hl 0 rfl) ?_
        refine va_get (D := (dC, dI)) (ci := 1) (v := .ref b6) (C := RX1) (T := TX1) (N := 12) hx hb hts hin hown hK hP 0 rfl rfl 9 (by decide) kf27 (fun _ h9 => h9) rfl dX1_best_218 ?_
        refine lv_bipush (v := nI 20) hx hb dX1_best_221 (by decide) ?_
        refine lv_iload_n hx hb dX1_best_223 rfl (lv_at hl 3 rfl) ?_
        refine tn_imul (a := 20) (b := z) hx hb dX1_best_224 ?_
        refine lv_iload_n hx hb dX1_best_225 rfl (lv_at hl 1 rfl) ?_
        refine tn_iadd (a := (20 * z)) (b := i) hx hb dX1_best_226 ?_
        refine tn_lald (i := ((20 * z) + i)) (v := le1 ((20 * z) + i)) hx hb hK hP 6 1 rfl rfl (by omega) (by decide) rfl dX1_best_227 ?_
        refine lv_aload_n hx hb dX1_best_228 rfl (lv_at hl 0 rfl) ?_
        refine va_get (D := (dC, dI)) (ci := 1) (v := .long bl1) (C := RX1) (T := TX1) (N := 12) hx hb hts hin hown hK hP 0 rfl rfl 10 (by decide) kf42 (fun _ h9 => h9) rfl dX1_best_229 ?_
        refine tn_lc_ge (x := (le1 ((20 * z) + i))) (y := bl1) (tgt := 256) hx hb dX1_best_232 dX1_best_233 (by decide) (fun c_232 => ?_) (fun c_232 => ?_)
        · skip
          refine lv_iinc (v := nI (z + 1)) (lv' := [(3, .int (nI (z + 1))), (0, .ref h), (1, .int (nI i)), (2, .int (nI j))]) hx hb dX1_best_256 hl (k := 3) rfl (tn_inc z) (by decide) rfl (fun ls hl => ?_)
          refine lv_goto (tgt := 211) hx hb dX1_best_259 (by decide) ?_
          exact ih_loopE (z + 1) le1 bl1 bs1 _ _ _ (by omega) (by omega) hlv (tm_sc_skip hsc c_232) hP hD hS (lv_sub hl [1, 2, 3, 0] rfl)
        · skip
          refine lv_aload_n hx hb dX1_best_236 rfl (lv_at hl 0 rfl) ?_
          refine lv_aload_n hx hb dX1_best_237 rfl (lv_at hl 0 rfl) ?_
          refine va_get (D := (dC, dI)) (ci := 1) (v := .ref b6) (C := RX1) (T := TX1) (N := 12) hx hb hts hin hown hK hP 0 rfl rfl 9 (by decide) kf27 (fun _ h9 => h9) rfl dX1_best_238 ?_
          refine lv_bipush (v := nI 20) hx hb dX1_best_241 (by decide) ?_
          refine lv_iload_n hx hb dX1_best_243 rfl (lv_at hl 3 rfl) ?_
          refine tn_imul (a := 20) (b := z) hx hb dX1_best_244 ?_
          refine lv_iload_n hx hb dX1_best_245 rfl (lv_at hl 1 rfl) ?_
          refine tn_iadd (a := (20 * z)) (b := i) hx hb dX1_best_246 ?_
          refine tn_lald (i := ((20 * z) + i)) (v := le1 ((20 * z) + i)) hx hb hK hP 6 1 rfl rfl (by omega) (by decide) rfl dX1_best_247 ?_
          refine va_put (D := (dC, dI)) (ci := 1) (v := .long (le1 ((20 * z) + i))) (ty := .long) (C := RX1) (T := TX1) (N := 12) hx hb hts hin tyX1 tyX1_ok nmX1 hown hK hP hD hS 0 rfl rfl 10 (by decide) kf42 (fun _ h9 => h9) rfl (by decide +kernel) rfl rfl (Nat.le_of_ble_eq_true rfl) dX1_best_248 (fun H locs hP hD hS => ?_)
          have hP : va_P (dC, dI) vwCl (tm_ws h b1 b2 b3 b4 b5 b6 cI cL cZ th cnt fp sp mo on rs rw rl le1 (le1 ((20 * z) + i)) bs1) H := hP
          have hD : va_D A (tm_ws h b1 b2 b3 b4 b5 b6 cI cL cZ th cnt fp sp mo on rs rw rl le1 (le1 ((20 * z) + i)) bs1) := hD
          refine lv_aload_n hx hb dX1_best_251 rfl (lv_at hl 0 rfl) ?_
          refine lv_iload_n hx hb dX1_best_252 rfl (lv_at hl 3 rfl) ?_
          refine va_put (D := (dC, dI)) (ci := 1) (v := .int (nI z)) (ty := .int) (C := RX1) (T := TX1) (N := 12) hx hb hts hin tyX1 tyX1_ok nmX1 hown hK hP hD hS 0 rfl rfl 11 (by decide) kf39 (fun _ h9 => h9) rfl (by decide +kernel) rfl rfl (Nat.le_of_ble_eq_true rfl) dX1_best_253 (fun H locs hP hD hS => ?_)
          have hP : va_P (dC, dI) vwCl (tm_ws h b1 b2 b3 b4 b5 b6 cI cL cZ th cnt fp sp mo on rs rw rl le1 (le1 ((20 * z) + i)) (nI z)) H := hP
          have hD : va_D A (tm_ws h b1 b2 b3 b4 b5 b6 cI cL cZ th cnt fp sp mo on rs rw rl le1 (le1 ((20 * z) + i)) (nI z)) := hD
          refine lv_iinc (v := nI (z + 1)) (lv' := [(3, .int (nI (z + 1))), (0, .ref h), (1, .int (nI i)), (2, .int (nI j))]) hx hb dX1_best_256 hl (k := 3) rfl (tn_inc z) (by decide) rfl (fun ls hl => ?_)
          refine lv_goto (tgt := 211) hx hb dX1_best_259 (by decide) ?_
          exact ih_loopE (z + 1) le1 (le1 (20 * z + i)) (nI z) _ _ _ (by omega) (by omega) hlv (tm_sc_take hsc c_232) hP hD hS (lv_sub hl [1, 2, 3, 0] rfl)
  have loopB : ∀ (n : Nat) (sv : Nat) (le1 : Nat → Int64) (H : Heap) (locs : List Loc) (ls : Array Slot), (sv ≤ 20) → (20 < sv + n) → (∀ z, z ≤ sv → tm_rw (tn_E cnt fp sp mo on) j z le1) → va_P (dC, dI) vwCl (tm_ws h b1 b2 b3 b4 b5 b6 cI cL cZ th cnt fp sp mo on rs rw rl le1 bl bs) H → va_D A (tm_ws h b1 b2 b3 b4 b5 b6 cI cL cZ th cnt fp sp mo on rs rw rl le1 bl bs) → va_S A s.heap H locs → lv_has ls 7 [(0, .ref h), (1, .int (nI i)), (2, .int (nI j)), (3, .int (nI (sv + 1)))] → W p l e (headSpec wsX1_best ({ frames := 0, cells := 0, slots := 0, locals := 0 })).room s m ([.ref h, .int (nI i), .int (nI j)] : List Value).toArray below meth c H locs 0 0 (MQ below (va_Qi (S := (Nat → Int64) × Int64 × Int32) (fun r u => tm_bok (tn_E cnt fp sp mo on) i j u.1 u.2.1 u.2.2 r) (fun u t => tn_at dC dI (tn_tys cI cL cZ) A (tm_ws h b1 b2 b3 b4 b5 b6 cI cL cZ th cnt fp sp mo on rs rw rl u.1 u.2.1 u.2.2) t) A) (([.ref h, .int (nI i), .int (nI j)] : List Value).toArray) s 0 0 A) (F0 m 34 ls []) := by
    intro n
    induction n with
    | zero => intro sv le1 H locs ls hs1 hs2 hlw _ _ _ _; exact absurd hs2 (by omega)
    | succ n ih_loopB =>
      intro sv le1 H locs ls hs1 hs2 hlw hP hD hS hl
      refine lv_iload_n hx hb dX1_best_34 rfl (lv_at hl 3 rfl) ?_
      refine lv_bipush (v := nI 20) hx hb dX1_best_35 (by decide) ?_
      refine lv_icmp_gt (tgt := 197) hx hb dX1_best_37 (by decide) (fun c_37 => ?_) (fun c_37 => ?_)
      · skip
        have hsv : sv = 20 := by
          have := (nI_ltI (by omega) (by omega)).mp c_37
          omega
        subst hsv
        refine lv_aload_n hx hb dX1_best_197 rfl (lv_at hl 0 rfl) ?_
        refine lv_iconst (v := (-1)) hx hb dX1_best_198 (by decide) ?_
        refine va_put (D := (dC, dI)) (ci := 1) (v := .int (-1)) (ty := .int) (C := RX1) (T := TX1) (N := 12) hx hb hts hin tyX1 tyX1_ok nmX1 hown hK hP hD hS 0 rfl rfl 11 (by decide) kf39 (fun _ h9 => h9) rfl (by decide +kernel) rfl rfl (Nat.le_of_ble_eq_true rfl) dX1_best_199 (fun H locs hP hD hS => ?_)
        have hP : va_P (dC, dI) vwCl (tm_ws h b1 b2 b3 b4 b5 b6 cI cL cZ th cnt fp sp mo on rs rw rl le1 bl (-1)) H := hP
        have hD : va_D A (tm_ws h b1 b2 b3 b4 b5 b6 cI cL cZ th cnt fp sp mo on rs rw rl le1 bl (-1)) := hD
        refine lv_aload_n hx hb dX1_best_202 rfl (lv_at hl 0 rfl) ?_
        refine lv_ldc2 (v := 9223372036854775807) hx hb hown kc37 dX1_best_203 ?_
        refine va_put (D := (dC, dI)) (ci := 1) (v := .long 9223372036854775807) (ty := .long) (C := RX1) (T := TX1) (N := 12) hx hb hts hin tyX1 tyX1_ok nmX1 hown hK hP hD hS 0 rfl rfl 10 (by decide) kf42 (fun _ h9 => h9) rfl (by decide +kernel) rfl rfl (Nat.le_of_ble_eq_true rfl) dX1_best_206 (fun H locs hP hD hS => ?_)
        have hP : va_P (dC, dI) vwCl (tm_ws h b1 b2 b3 b4 b5 b6 cI cL cZ th cnt fp sp mo on rs rw rl le1 9223372036854775807 (-1)) H := hP
        have hD : va_D A (tm_ws h b1 b2 b3 b4 b5 b6 cI cL cZ th cnt fp sp mo on rs rw rl le1 9223372036854775807 (-1)) := hD
        refine lv_iconst (v := nI 0) hx hb dX1_best_209 (by decide) ?_
        refine lv_istore_n (lv' := [(3, .int (nI 0)), (0, .ref h), (1, .int (nI i)), (2, .int (nI j))]) hx hb dX1_best_210 rfl hl (by decide) rfl (fun ls hl => ?_)
        exact loopE 22 0 le1 tn_MX (-1) _ _ _ (by omega) (by omega) (fun z hz => hlw z (by omega)) tm_sc_0 hP hD hS (lv_sub hl [1, 2, 3, 0] rfl)
      · skip
        have hsv : sv + 1 ≤ 20 := Nat.le_of_not_lt (fun q => c_37 (nI_lt q (by omega)))
        have loopD : ∀ (n : Nat) (k : Nat) (le1 : Nat → Int64) (H : Heap) (locs : List Loc) (ls : Array Slot), (k ≤ cnt) → (cnt < k + n) → (∀ z, z ≤ sv → tm_rw (tn_E cnt fp sp mo on) j z le1) → (tm_rk (tn_E cnt fp sp mo on) (tn_E k fp sp mo on) j sv le1) → va_P (dC, dI) vwCl (tm_ws h b1 b2 b3 b4 b5 b6 cI cL cZ th cnt fp sp mo on rs rw rl le1 bl bs) H → va_D A (tm_ws h b1 b2 b3 b4 b5 b6 cI cL cZ th cnt fp sp mo on rs rw rl le1 bl bs) → va_S A s.heap H locs → lv_has ls 7 [(0, .ref h), (1, .int (nI i)), (2, .int (nI j)), (3, .int (nI (sv + 1))), (4, .int (nI k))] → W p l e (headSpec wsX1_best ({ frames := 0, cells := 0, slots := 0, locals := 0 })).room s m ([.ref h, .int (nI i), .int (nI j)] : List Value).toArray below meth c H locs 0 0 (MQ below (va_Qi (S := (Nat → Int64) × Int64 × Int32) (fun r u => tm_bok (tn_E cnt fp sp mo on) i j u.1 u.2.1 u.2.2 r) (fun u t => tn_at dC dI (tn_tys cI cL cZ) A (tm_ws h b1 b2 b3 b4 b5 b6 cI cL cZ th cnt fp sp mo on rs rw rl u.1 u.2.1 u.2.2) t) A) (([.ref h, .int (nI i), .int (nI j)] : List Value).toArray) s 0 0 A) (F0 m 74 ls []) := by
          intro n
          induction n with
          | zero => intro k le1 H locs ls hk1 hk2 hlw hrk _ _ _ _; exact absurd hk2 (by omega)
          | succ n ih_loopD =>
            intro k le1 H locs ls hk1 hk2 hlw hrk hP hD hS hl
            refine lv_iload hx hb dX1_best_74 (lv_at hl 4 rfl) ?_
            refine lv_aload_n hx hb dX1_best_76 rfl (lv_at hl 0 rfl) ?_
            refine va_get (D := (dC, dI)) (ci := 1) (v := .int (nI cnt)) (C := RX1) (T := TX1) (N := 12) hx hb hts hin hown hK hP 0 rfl rfl 1 (by decide) kf34 (fun _ h9 => h9) rfl dX1_best_77 ?_
            refine lv_icmp_ge (tgt := 191) hx hb dX1_best_80 (by decide) (fun c_80 => ?_) (fun c_80 => ?_)
            · skip
              have hkc : k = cnt := Nat.le_antisymm hk1 ((nI_leI (by omega) (by omega)).mp c_80)
              subst hkc
              refine lv_iinc (v := nI ((sv + 1) + 1)) (lv' := [(3, .int (nI ((sv + 1) + 1))), (0, .ref h), (1, .int (nI i)), (2, .int (nI j)), (4, .int (nI k))]) hx hb dX1_best_191 hl (k := 3) rfl (tn_inc (sv + 1)) (by decide) rfl (fun ls hl => ?_)
              refine lv_goto (tgt := 34) hx hb dX1_best_194 (by decide) ?_
              exact ih_loopB (sv + 1) le1 _ _ _ (by omega) (by omega) (fun z hz => by
                rcases Nat.lt_or_ge sv z with q | q
                · have : z = sv + 1 := by omega
                  subst this
                  exact tm_rk_done hrk
                · exact hlw z q) hP hD hS (lv_sub hl [1, 2, 3, 0] rfl)
            · skip
              have hkc : k < cnt := Nat.lt_of_not_le (fun q => c_80 (nI_le q (by omega)))
              have hk3 := (g.2 k hkc)
              refine lv_bipush (v := nI 20) hx hb dX1_best_83 (by decide) ?_
              refine lv_iload_n hx hb dX1_best_85 rfl (lv_at hl 3 rfl) ?_
              refine lv_iconst (v := nI 1) hx hb dX1_best_86 (by decide) ?_
              refine tn_isub2 (a := (sv + 1)) (b := 1) (d := sv) hx hb (by omega) dX1_best_87 ?_
              refine tn_imul (a := 20) (b := sv) hx hb dX1_best_88 ?_
              refine lv_aload_n hx hb dX1_best_89 rfl (lv_at hl 0 rfl) ?_
              refine va_get (D := (dC, dI)) (ci := 1) (v := .ref b2) (C := RX1) (T := TX1) (N := 12) hx hb hts hin hown hK hP 0 rfl rfl 3 (by decide) kf13 (fun _ h9 => h9) rfl dX1_best_90 ?_
              refine lv_iload hx hb dX1_best_93 (lv_at hl 4 rfl) ?_
              refine tn_iald (i := k) (v := nI (sp k)) hx hb hK hP 2 0 rfl rfl (by omega) (by decide) rfl dX1_best_95 ?_
              refine tn_iadd (a := (20 * sv)) (b := (sp k)) hx hb dX1_best_96 ?_
              refine lv_istore (lv' := [(5, .int (nI ((20 * sv) + (sp k)))), (0, .ref h), (1, .int (nI i)), (2, .int (nI j)), (3, .int (nI (sv + 1))), (4, .int (nI k))]) hx hb dX1_best_97 hl (by decide) rfl (fun ls hl => ?_)
              refine lv_bipush (v := nI 20) hx hb dX1_best_99 (by decide) ?_
              refine lv_iload_n hx hb dX1_best_101 rfl (lv_at hl 4 rfl) ?_
              refine tn_imul (a := 20) (b := (sv + 1)) hx hb dX1_best_102 ?_
              refine lv_aload_n hx hb dX1_best_103 rfl (lv_at hl 1 rfl) ?_
              refine va_get (D := (dC, dI)) (ci := 1) (v := .ref b1) (C := RX1) (T := TX1) (N := 12) hx hb hts hin hown hK hP 0 rfl rfl 2 (by decide) kf7 (fun _ h9 => h9) rfl dX1_best_104 ?_
              refine lv_iload hx hb dX1_best_107 (lv_at hl 5 rfl) ?_
              refine tn_iald (i := k) (v := nI (fp k)) hx hb hK hP 1 0 rfl rfl (by omega) (by decide) rfl dX1_best_109 ?_
              refine tn_iadd (a := (20 * (sv + 1))) (b := (fp k)) hx hb dX1_best_110 ?_
              refine lv_istore (lv' := [(6, .int (nI ((20 * (sv + 1)) + (fp k)))), (5, .int (nI ((20 * sv) + (sp k)))), (0, .ref h), (1, .int (nI i)), (2, .int (nI j)), (3, .int (nI (sv + 1))), (4, .int (nI k))]) hx hb dX1_best_111 hl (by decide) rfl (fun ls hl => ?_)
              refine lv_aload_n hx hb dX1_best_113 rfl (lv_at hl 2 rfl) ?_
              refine va_get (D := (dC, dI)) (ci := 1) (v := .ref b4) (C := RX1) (T := TX1) (N := 12) hx hb hts hin hown hK hP 0 rfl rfl 5 (by decide) kf20 (fun _ h9 => h9) rfl dX1_best_114 ?_
              refine lv_iload hx hb dX1_best_117 (lv_at hl 6 rfl) ?_
              refine tn_zald (i := k) (v := tn_b (on k)) hx hb hK hP 4 2 rfl rfl (by omega) (by decide) rfl dX1_best_119 ?_
              refine lv_if_eq (tgt := 185) hx hb dX1_best_120 (by decide) (fun c_120 => ?_) (fun c_120 => ?_)
              · skip
                have ho := tn_b_eq0 c_120
                refine lv_iinc (v := nI (k + 1)) (lv' := [(4, .int (nI (k + 1))), (6, .int (nI ((20 * (sv + 1)) + (fp k)))), (5, .int (nI ((20 * sv) + (sp k)))), (0, .ref h), (1, .int (nI i)), (2, .int (nI j)), (3, .int (nI (sv + 1)))]) hx hb dX1_best_185 hl (k := 6) rfl (tn_inc k) (by decide) rfl (fun ls hl => ?_)
                refine lv_goto (tgt := 74) hx hb dX1_best_188 (by decide) ?_
                exact ih_loopD (k + 1) le1 _ _ _ hkc (by omega) hlw (tm_skip_off hrk ho) hP hD hS (lv_sub hl [3, 4, 5, 6, 0] rfl)
              · skip
                have ho := tn_b_ne0 c_120
                refine lv_aload_n hx hb dX1_best_123 rfl (lv_at hl 2 rfl) ?_
                refine va_get (D := (dC, dI)) (ci := 1) (v := .ref b6) (C := RX1) (T := TX1) (N := 12) hx hb hts hin hown hK hP 0 rfl rfl 9 (by decide) kf27 (fun _ h9 => h9) rfl dX1_best_124 ?_
                refine lv_iload hx hb dX1_best_127 (lv_at hl 1 rfl) ?_
                refine tn_lald (i := ((20 * sv) + (sp k))) (v := le1 ((20 * sv) + (sp k))) hx hb hK hP 6 1 rfl rfl (by omega) (by decide) rfl dX1_best_129 ?_
                refine lv_ldc2 (v := 9223372036854775807) hx hb hown kc37 dX1_best_130 ?_
                refine tn_lc_eq (x := (le1 ((20 * sv) + (sp k)))) (y := 9223372036854775807) (tgt := 185) hx hb dX1_best_133 dX1_best_134 (by decide) (fun c_133 => ?_) (fun c_133 => ?_)
                · skip
                  refine lv_iinc (v := nI (k + 1)) (lv' := [(4, .int (nI (k + 1))), (6, .int (nI ((20 * (sv + 1)) + (fp k)))), (5, .int (nI ((20 * sv) + (sp k)))), (0, .ref h), (1, .int (nI i)), (2, .int (nI j)), (3, .int (nI (sv + 1)))]) hx hb dX1_best_185 hl (k := 6) rfl (tn_inc k) (by decide) rfl (fun ls hl => ?_)
                  refine lv_goto (tgt := 74) hx hb dX1_best_188 (by decide) ?_
                  exact ih_loopD (k + 1) le1 _ _ _ hkc (by omega) hlw (tm_skip_far hrk (hlw sv (Nat.le_refl _)) hk3.2.1 c_133) hP hD hS (lv_sub hl [3, 4, 5, 6, 0] rfl)
                · skip
                  refine lv_aload_n hx hb dX1_best_137 rfl (lv_at hl 2 rfl) ?_
                  refine va_get (D := (dC, dI)) (ci := 1) (v := .ref b3) (C := RX1) (T := TX1) (N := 12) hx hb hts hin hown hK hP 0 rfl rfl 4 (by decide) kf16 (fun _ h9 => h9) rfl dX1_best_138 ?_
                  refine lv_iload hx hb dX1_best_141 (lv_at hl 6 rfl) ?_
                  refine tn_lald (i := k) (v := mo k) hx hb hK hP 3 1 rfl rfl (by omega) (by decide) rfl dX1_best_143 ?_
                  refine lv_aload_n hx hb dX1_best_144 rfl (lv_at hl 2 rfl) ?_
                  refine va_get (D := (dC, dI)) (ci := 1) (v := .ref b6) (C := RX1) (T := TX1) (N := 12) hx hb hts hin hown hK hP 0 rfl rfl 9 (by decide) kf27 (fun _ h9 => h9) rfl dX1_best_145 ?_
                  refine lv_iload hx hb dX1_best_148 (lv_at hl 1 rfl) ?_
                  refine tn_lald (i := ((20 * sv) + (sp k))) (v := le1 ((20 * sv) + (sp k))) hx hb hK hP 6 1 rfl rfl (by omega) (by decide) rfl dX1_best_150 ?_
                  refine lv_ladd hx hb dX1_best_151 ?_
                  refine lv_aload_n hx hb dX1_best_152 rfl (lv_at hl 2 rfl) ?_
                  refine va_get (D := (dC, dI)) (ci := 1) (v := .ref b6) (C := RX1) (T := TX1) (N := 12) hx hb hts hin hown hK hP 0 rfl rfl 9 (by decide) kf27 (fun _ h9 => h9) rfl dX1_best_153 ?_
                  refine lv_iload hx hb dX1_best_156 (lv_at hl 0 rfl) ?_
                  refine tn_lald (i := ((20 * (sv + 1)) + (fp k))) (v := le1 ((20 * (sv + 1)) + (fp k))) hx hb hK hP 6 1 rfl rfl (by omega) (by decide) rfl dX1_best_158 ?_
                  refine tn_lc_ge (x := ((mo k) + (le1 ((20 * sv) + (sp k))))) (y := (le1 ((20 * (sv + 1)) + (fp k)))) (tgt := 185) hx hb dX1_best_159 dX1_best_160 (by decide) (fun c_159 => ?_) (fun c_159 => ?_)
                  · skip
                    refine lv_iinc (v := nI (k + 1)) (lv' := [(4, .int (nI (k + 1))), (6, .int (nI ((20 * (sv + 1)) + (fp k)))), (5, .int (nI ((20 * sv) + (sp k)))), (0, .ref h), (1, .int (nI i)), (2, .int (nI j)), (3, .int (nI (sv + 1)))]) hx hb dX1_best_185 hl (k := 6) rfl (tn_inc k) (by decide) rfl (fun ls hl => ?_)
                    refine lv_goto (tgt := 74) hx hb dX1_best_188 (by decide) ?_
                    exact ih_loopD (k + 1) le1 _ _ _ hkc (by omega) hlw (tm_skip_ge g hkc (by omega) (hlw sv (Nat.le_refl _)) hrk c_133 c_159) hP hD hS (lv_sub hl [3, 4, 5, 6, 0] rfl)
                  · skip
                    refine lv_aload_n hx hb dX1_best_163 rfl (lv_at hl 2 rfl) ?_
                    refine va_get (D := (dC, dI)) (ci := 1) (v := .ref b6) (C := RX1) (T := TX1) (N := 12) hx hb hts hin hown hK hP 0 rfl rfl 9 (by decide) kf27 (fun _ h9 => h9) rfl dX1_best_164 ?_
                    refine lv_iload hx hb dX1_best_167 (lv_at hl 0 rfl) ?_
                    refine lv_aload_n hx hb dX1_best_169 rfl (lv_at hl 2 rfl) ?_
                    refine va_get (D := (dC, dI)) (ci := 1) (v := .ref b3) (C := RX1) (T := TX1) (N := 12) hx hb hts hin hown hK hP 0 rfl rfl 4 (by decide) kf16 (fun _ h9 => h9) rfl dX1_best_170 ?_
                    refine lv_iload hx hb dX1_best_173 (lv_at hl 6 rfl) ?_
                    refine tn_lald (i := k) (v := mo k) hx hb hK hP 3 1 rfl rfl (by omega) (by decide) rfl dX1_best_175 ?_
                    refine lv_aload_n hx hb dX1_best_176 rfl (lv_at hl 2 rfl) ?_
                    refine va_get (D := (dC, dI)) (ci := 1) (v := .ref b6) (C := RX1) (T := TX1) (N := 12) hx hb hts hin hown hK hP 0 rfl rfl 9 (by decide) kf27 (fun _ h9 => h9) rfl dX1_best_177 ?_
                    refine lv_iload hx hb dX1_best_180 (lv_at hl 1 rfl) ?_
                    refine tn_lald (i := ((20 * sv) + (sp k))) (v := le1 ((20 * sv) + (sp k))) hx hb hK hP 6 1 rfl rfl (by omega) (by decide) rfl dX1_best_182 ?_
                    refine lv_ladd hx hb dX1_best_183 ?_
                    refine tn_last (i := ((20 * (sv + 1)) + (fp k))) (f' := (vp_updL le1 ((20 * (sv + 1)) + (fp k)) ((mo k) + (le1 ((20 * sv) + (sp k)))))) hx hb hK hP hD hS 6 1 rfl rfl (by omega) (by decide) rfl dX1_best_184 (fun H locs hP hD hS => ?_)
                    have hP : va_P (dC, dI) vwCl (tm_ws h b1 b2 b3 b4 b5 b6 cI cL cZ th cnt fp sp mo on rs rw rl (vp_updL le1 ((20 * (sv + 1)) + (fp k)) ((mo k) + (le1 ((20 * sv) + (sp k))))) bl bs) H := hP
                    have hD : va_D A (tm_ws h b1 b2 b3 b4 b5 b6 cI cL cZ th cnt fp sp mo on rs rw rl (vp_updL le1 ((20 * (sv + 1)) + (fp k)) ((mo k) + (le1 ((20 * sv) + (sp k))))) bl bs) := hD
                    refine lv_iinc (v := nI (k + 1)) (lv' := [(4, .int (nI (k + 1))), (6, .int (nI ((20 * (sv + 1)) + (fp k)))), (5, .int (nI ((20 * sv) + (sp k)))), (0, .ref h), (1, .int (nI i)), (2, .int (nI j)), (3, .int (nI (sv + 1)))]) hx hb dX1_best_185 hl (k := 6) rfl (tn_inc k) (by decide) rfl (fun ls hl => ?_)
                    refine lv_goto (tgt := 74) hx hb dX1_best_188 (by decide) ?_
                    exact ih_loopD (k + 1) _ _ _ _ hkc (by omega) (fun z hz => tm_keepU (hlw z hz) hz (by omega)) (tm_take g hkc ho (by omega) (hlw sv (Nat.le_refl _)) hrk c_133 c_159) hP hD hS (lv_sub hl [3, 4, 5, 6, 0] rfl)
        have loopC : ∀ (n : Nat) (v : Nat) (le1 : Nat → Int64) (H : Heap) (locs : List Loc) (ls : Array Slot), (v ≤ 20) → (20 < v + n) → (∀ z, z ≤ sv → tm_rw (tn_E cnt fp sp mo on) j z le1) → (∀ z, z < v → le1 (20 * (sv + 1) + z) = tn_MX) → va_P (dC, dI) vwCl (tm_ws h b1 b2 b3 b4 b5 b6 cI cL cZ th cnt fp sp mo on rs rw rl le1 bl bs) H → va_D A (tm_ws h b1 b2 b3 b4 b5 b6 cI cL cZ th cnt fp sp mo on rs rw rl le1 bl bs) → va_S A s.heap H locs → lv_has ls 7 [(0, .ref h), (1, .int (nI i)), (2, .int (nI j)), (3, .int (nI (sv + 1))), (4, .int (nI v))] → W p l e (headSpec wsX1_best ({ frames := 0, cells := 0, slots := 0, locals := 0 })).room s m ([.ref h, .int (nI i), .int (nI j)] : List Value).toArray below meth c H locs 0 0 (MQ below (va_Qi (S := (Nat → Int64) × Int64 × Int32) (fun r u => tm_bok (tn_E cnt fp sp mo on) i j u.1 u.2.1 u.2.2 r) (fun u t => tn_at dC dI (tn_tys cI cL cZ) A (tm_ws h b1 b2 b3 b4 b5 b6 cI cL cZ th cnt fp sp mo on rs rw rl u.1 u.2.1 u.2.2) t) A) (([.ref h, .int (nI i), .int (nI j)] : List Value).toArray) s 0 0 A) (F0 m 43 ls []) := by
          intro n
          induction n with
          | zero => intro v le1 H locs ls hv1 hv2 hlw hfill _ _ _ _; exact absurd hv2 (by omega)
          | succ n ih_loopC =>
            intro v le1 H locs ls hv1 hv2 hlw hfill hP hD hS hl
            refine lv_iload hx hb dX1_best_43 (lv_at hl 4 rfl) ?_
            refine lv_bipush (v := nI 20) hx hb dX1_best_45 (by decide) ?_
            refine lv_icmp_ge (tgt := 71) hx hb dX1_best_47 (by decide) (fun c_47 => ?_) (fun c_47 => ?_)
            · skip
              have hv20 : v = 20 := Nat.le_antisymm hv1 ((nI_leI (by omega) (by omega)).mp c_47)
              subst hv20
              refine lv_iconst (v := nI 0) hx hb dX1_best_71 (by decide) ?_
              refine lv_istore (lv' := [(4, .int (nI 0)), (0, .ref h), (1, .int (nI i)), (2, .int (nI j)), (3, .int (nI (sv + 1)))]) hx hb dX1_best_72 hl (by decide) rfl (fun ls hl => ?_)
              exact loopD (cnt + 1) 0 le1 _ _ _ (Nat.zero_le _) (by omega) hlw (tm_rk_0 hfill) hP hD hS (lv_sub hl [1, 2, 3, 4, 0] rfl)
            · skip
              have hv20 : v < 20 := Nat.lt_of_not_le (fun q => c_47 (nI_le q (by omega)))
              refine lv_aload_n hx hb dX1_best_50 rfl (lv_at hl 0 rfl) ?_
              refine va_get (D := (dC, dI)) (ci := 1) (v := .ref b6) (C := RX1) (T := TX1) (N := 12) hx hb hts hin hown hK hP 0 rfl rfl 9 (by decide) kf27 (fun _ h9 => h9) rfl dX1_best_51 ?_
              refine lv_bipush (v := nI 20) hx hb dX1_best_54 (by decide) ?_
              refine lv_iload_n hx hb dX1_best_56 rfl (lv_at hl 3 rfl) ?_
              refine tn_imul (a := 20) (b := (sv + 1)) hx hb dX1_best_57 ?_
              refine lv_iload hx hb dX1_best_58 (lv_at hl 4 rfl) ?_
              refine tn_iadd (a := (20 * (sv + 1))) (b := v) hx hb dX1_best_60 ?_
              refine lv_ldc2 (v := 9223372036854775807) hx hb hown kc37 dX1_best_61 ?_
              refine tn_last (i := ((20 * (sv + 1)) + v)) (f' := (vp_updL le1 ((20 * (sv + 1)) + v) 9223372036854775807)) hx hb hK hP hD hS 6 1 rfl rfl (by omega) (by decide) rfl dX1_best_64 (fun H locs hP hD hS => ?_)
              have hP : va_P (dC, dI) vwCl (tm_ws h b1 b2 b3 b4 b5 b6 cI cL cZ th cnt fp sp mo on rs rw rl (vp_updL le1 ((20 * (sv + 1)) + v) 9223372036854775807) bl bs) H := hP
              have hD : va_D A (tm_ws h b1 b2 b3 b4 b5 b6 cI cL cZ th cnt fp sp mo on rs rw rl (vp_updL le1 ((20 * (sv + 1)) + v) 9223372036854775807) bl bs) := hD
              refine lv_iinc (v := nI (v + 1)) (lv' := [(4, .int (nI (v + 1))), (0, .ref h), (1, .int (nI i)), (2, .int (nI j)), (3, .int (nI (sv + 1)))]) hx hb dX1_best_65 hl (k := 4) rfl (tn_inc v) (by decide) rfl (fun ls hl => ?_)
              refine lv_goto (tgt := 43) hx hb dX1_best_68 (by decide) ?_
              exact ih_loopC (v + 1) _ _ _ _ (by omega) (by omega) (fun z hz => tm_keepU (hlw z hz) hz (by omega)) (tm_fill hfill) hP hD hS (lv_sub hl [1, 2, 3, 4, 0] rfl)
        refine lv_iconst (v := nI 0) hx hb dX1_best_40 (by decide) ?_
        refine lv_istore (lv' := [(4, .int (nI 0)), (0, .ref h), (1, .int (nI i)), (2, .int (nI j)), (3, .int (nI (sv + 1)))]) hx hb dX1_best_41 hl (by decide) rfl (fun ls hl => ?_)
        exact loopC 21 0 le1 _ _ _ (by omega) (by omega) hlw (fun z hz => absurd hz (by omega)) hP hD hS (lv_sub hl [1, 2, 3, 4, 0] rfl)
  have loopA : ∀ (n : Nat) (v : Nat) (le1 : Nat → Int64) (H : Heap) (locs : List Loc) (ls : Array Slot), (v ≤ 20) → (20 < v + n) → (∀ z, z < v → le1 z = if z = j then 0 else tn_MX) → va_P (dC, dI) vwCl (tm_ws h b1 b2 b3 b4 b5 b6 cI cL cZ th cnt fp sp mo on rs rw rl le1 bl bs) H → va_D A (tm_ws h b1 b2 b3 b4 b5 b6 cI cL cZ th cnt fp sp mo on rs rw rl le1 bl bs) → va_S A s.heap H locs → lv_has ls 7 [(0, .ref h), (1, .int (nI i)), (2, .int (nI j)), (3, .int (nI v))] → W p l e (headSpec wsX1_best ({ frames := 0, cells := 0, slots := 0, locals := 0 })).room s m ([.ref h, .int (nI i), .int (nI j)] : List Value).toArray below meth c H locs 0 0 (MQ below (va_Qi (S := (Nat → Int64) × Int64 × Int32) (fun r u => tm_bok (tn_E cnt fp sp mo on) i j u.1 u.2.1 u.2.2 r) (fun u t => tn_at dC dI (tn_tys cI cL cZ) A (tm_ws h b1 b2 b3 b4 b5 b6 cI cL cZ th cnt fp sp mo on rs rw rl u.1 u.2.1 u.2.2) t) A) (([.ref h, .int (nI i), .int (nI j)] : List Value).toArray) s 0 0 A) (F0 m 2 ls []) := by
    intro n
    induction n with
    | zero => intro v le1 H locs ls hv1 hv2 hA0 _ _ _ _; exact absurd hv2 (by omega)
    | succ n ih_loopA =>
      intro v le1 H locs ls hv1 hv2 hA0 hP hD hS hl
      refine lv_iload_n hx hb dX1_best_2 rfl (lv_at hl 3 rfl) ?_
      refine lv_bipush (v := nI 20) hx hb dX1_best_3 (by decide) ?_
      refine lv_icmp_ge (tgt := 32) hx hb dX1_best_5 (by decide) (fun c_5 => ?_) (fun c_5 => ?_)
      · skip
        have hv20 : v = 20 := Nat.le_antisymm hv1 ((nI_leI (by omega) (by omega)).mp c_5)
        subst hv20
        refine lv_iconst (v := nI 1) hx hb dX1_best_32 (by decide) ?_
        refine lv_istore_n (lv' := [(3, .int (nI 1)), (0, .ref h), (1, .int (nI i)), (2, .int (nI j))]) hx hb dX1_best_33 rfl hl (by decide) rfl (fun ls hl => ?_)
        exact loopB 21 0 le1 _ _ _ (by omega) (by omega) (fun z hz => by rw [show z = 0 by omega]; exact tm_rw_0 hA0) hP hD hS (lv_sub hl [1, 2, 3, 0] rfl)
      · skip
        have hv20 : v < 20 := Nat.lt_of_not_le (fun q => c_5 (nI_le q (by omega)))
        refine lv_aload_n hx hb dX1_best_8 rfl (lv_at hl 0 rfl) ?_
        refine va_get (D := (dC, dI)) (ci := 1) (v := .ref b6) (C := RX1) (T := TX1) (N := 12) hx hb hts hin hown hK hP 0 rfl rfl 9 (by decide) kf27 (fun _ h9 => h9) rfl dX1_best_9 ?_
        refine lv_iload_n hx hb dX1_best_12 rfl (lv_at hl 3 rfl) ?_
        refine lv_iload_n hx hb dX1_best_13 rfl (lv_at hl 3 rfl) ?_
        refine lv_iload_n hx hb dX1_best_14 rfl (lv_at hl 2 rfl) ?_
        refine lv_icmp_ne (tgt := 22) hx hb dX1_best_15 (by decide) (fun c_15 => ?_) (fun c_15 => ?_)
        · skip
          have hvj : v ≠ j := fun q => c_15 (by rw [q])
          refine lv_ldc2 (v := 9223372036854775807) hx hb hown kc37 dX1_best_22 ?_
          refine tn_last (i := v) (f' := (vp_updL le1 v 9223372036854775807)) hx hb hK hP hD hS 6 1 rfl rfl (by omega) (by decide) rfl dX1_best_25 (fun H locs hP hD hS => ?_)
          have hP : va_P (dC, dI) vwCl (tm_ws h b1 b2 b3 b4 b5 b6 cI cL cZ th cnt fp sp mo on rs rw rl (vp_updL le1 v 9223372036854775807) bl bs) H := hP
          have hD : va_D A (tm_ws h b1 b2 b3 b4 b5 b6 cI cL cZ th cnt fp sp mo on rs rw rl (vp_updL le1 v 9223372036854775807) bl bs) := hD
          refine lv_iinc (v := nI (v + 1)) (lv' := [(3, .int (nI (v + 1))), (0, .ref h), (1, .int (nI i)), (2, .int (nI j))]) hx hb dX1_best_26 hl (k := 3) rfl (tn_inc v) (by decide) rfl (fun ls hl => ?_)
          refine lv_goto (tgt := 2) hx hb dX1_best_29 (by decide) ?_
          exact ih_loopA (v + 1) _ _ _ _ (by omega) (by omega) (tm_A0 hA0 (by rw [if_neg hvj])) hP hD hS (lv_sub hl [1, 2, 3, 0] rfl)
        · skip
          have hvj : v = j := (nI_eq (by omega) (by omega)).mp c_15
          refine lv_lconst (v := 0) hx hb dX1_best_18 (by decide) ?_
          refine lv_goto (tgt := 25) hx hb dX1_best_19 (by decide) ?_
          refine tn_last (i := v) (f' := (vp_updL le1 v 0)) hx hb hK hP hD hS 6 1 rfl rfl (by omega) (by decide) rfl dX1_best_25 (fun H locs hP hD hS => ?_)
          have hP : va_P (dC, dI) vwCl (tm_ws h b1 b2 b3 b4 b5 b6 cI cL cZ th cnt fp sp mo on rs rw rl (vp_updL le1 v 0) bl bs) H := hP
          have hD : va_D A (tm_ws h b1 b2 b3 b4 b5 b6 cI cL cZ th cnt fp sp mo on rs rw rl (vp_updL le1 v 0) bl bs) := hD
          refine lv_iinc (v := nI (v + 1)) (lv' := [(3, .int (nI (v + 1))), (0, .ref h), (1, .int (nI i)), (2, .int (nI j))]) hx hb dX1_best_26 hl (k := 3) rfl (tn_inc v) (by decide) rfl (fun ls hl => ?_)
          refine lv_goto (tgt := 2) hx hb dX1_best_29 (by decide) ?_
          exact ih_loopA (v + 1) _ _ _ _ (by omega) (by omega) (tm_A0 hA0 (by rw [if_pos hvj])) hP hD hS (lv_sub hl [1, 2, 3, 0] rfl)
  refine lv_iconst (v := nI 0) hx hb dX1_best_0 (by decide) ?_
  refine lv_istore_n (lv' := [(3, .int (nI 0)), (0, .ref h), (1, .int (nI i)), (2, .int (nI j))]) hx hb dX1_best_1 rfl hl (by decide) rfl (fun ls hl => ?_)
  exact loopA 21 0 le _ _ _ (by omega) (by omega) (fun z hz => absurd hz (by omega)) hP hD hS (lv_sub hl [1, 2, 3, 0] rfl)
end
section
set_option maxHeartbeats 4000000 in
set_option maxRecDepth 100000 in
/-- walk(i) -/
theorem cX1_walk_ok (l : Launch) (dC : Nat → ClassId) (dI : Nat → Nat → Nat) (h b1 b2 b3 b4 b5 b6 : Nat) (cI cL cZ : ClassId) (th cnt : Nat) (fp sp : Nat → Nat) (mo : Nat → Int64) (on : Nat → Bool) (rs : Nat) (rw : Nat → Nat) (rl : Int64) (le : Nat → Int64) (bl : Int64) (bs : Int32) (sz : Nat) (g : tn_good cnt fp sp mo) (i : Nat) (hi : i < 20) (tg : Nat) (a : Nat) (n0 : Nat) (hrs : rs = a + 1) (hai : rw a = i) (hn0 : n0 ≤ 19) (hbs : bs = nI n0) (hlv : tm_lv (tn_E cnt fp sp mo on) tg le) (hne : le (20 * n0 + i) ≠ tn_MX) (hbe : tn_best (tn_E cnt fp sp mo on) i tg (le (20 * n0 + i)).toInt n0) (hfit : a + 1 + n0 ≤ 24) : Met l yX1_walk wsX1_walk ({ frames := 1, cells := 0, slots := 0, locals := 25 }) (va_Pc [.ref h, .int (nI i)] (tn_Pre dC dI (tn_tys cI cL cZ) (tm_ws h b1 b2 b3 b4 b5 b6 cI cL cZ th cnt fp sp mo on rs rw rl le bl bs) sz)) (va_Qv (S := (Nat → Nat) × Nat) (fun u => tn_bp (tn_E cnt fp sp mo on) tg n0 i u.1 a ∧ u.2 = a + 1 + n0 ∧ ∀ z, z < a → u.1 z = rw z) (fun u t => tn_at dC dI (tn_tys cI cL cZ) (va_A (tm_ws h b1 b2 b3 b4 b5 b6 cI cL cZ th cnt fp sp mo on rs rw rl le bl bs) sz) (tm_ws h b1 b2 b3 b4 b5 b6 cI cL cZ th cnt fp sp mo on u.2 u.1 rl le bl bs) t) (va_A (tm_ws h b1 b2 b3 b4 b5 b6 cI cL cZ th cnt fp sp mo on rs rw rl le bl bs) sz)) 0 0 (va_A (tm_ws h b1 b2 b3 b4 b5 b6 cI cL cZ th cnt fp sp mo on rs rw rl le bl bs) sz) := by
  refine Met.ofW (cc := cX1_walk) (maxL := 5) (ret := none) (by decide) rfl ?_
  intro p e s m args below meth c s₁ B hml hv
  obtain ⟨rfl, hsz, hP, hK, hD0⟩ := hv
  have hx := B.exec
  have hb := B.bytes
  have hr := B.returns
  have hts := atoms_spec (ws := wsX1_walk) B.pre
  have hown : s.vm.findClass RX1 = some m.cls := findClass_of_methodNamed B.named
  have hlocks := B.notSynchronized
  subst hsz
  have hD := hD0.self (sz := s.heap.size)
  generalize hAe : va_A (tm_ws h b1 b2 b3 b4 b5 b6 cI cL cZ th cnt fp sp mo on rs rw rl le bl bs) s.heap.size = A at hD ⊢
  have hA : ∀ q : Nat, s.heap.size ≤ q → A q := fun q h => by rw [← hAe]; exact Or.inr h
  have hS : va_S A s.heap s.heap [] := va_S.rf
  have hl := lv_entry ([.ref h, .int (nI i)]) (n := 5) (Nat.le_of_ble_eq_true rfl)
  rw [lg_entry_eq]
  generalize (lg_sl ([.ref h, .int (nI i)]) ++ List.replicate (5 - (lg_sl ([.ref h, .int (nI i)])).length) Slot.unset).toArray = ls at hl ⊢
  have hl : lv_has ls 5 [(0, .ref h), (1, .int (nI i))] := hl
  have kf39 := hts (.fieldLink RX1 39 "TimeNetModel" "bestSteps" "I") (by decide +kernel)
  have kc37 := hts (.constantLong RX1 37 (9223372036854775807)) (by decide +kernel)
  have kf27 := hts (.fieldLink RX1 27 "TimeNetModel" "least" "[J") (by decide +kernel)
  have kf24 := hts (.fieldLink RX1 24 "TimeNetModel" "row" "[I") (by decide +kernel)
  have kf50 := hts (.fieldLink RX1 50 "TimeNetModel" "rowSize" "I") (by decide +kernel)
  have hin : ∀ w ∈ u_ws RX1 TX1 12, w ∈ wsX1_walk := by decide +kernel
  have hc := g.1
  subst hrs
  subst hbs
  have loopO : ∀ (n : Nat) (sq : Nat) (v : Nat) (mm : Nat) (rwc : Nat → Nat) (H : Heap) (locs : List Loc) (ls : Array Slot), (sq < n) → (mm + sq = n0) → (v < 20) → (tn_best (tn_E cnt fp sp mo on) v tg (le (20 * sq + v)).toInt sq) → (le (20 * sq + v) ≠ tn_MX) → (tn_bp (tn_E cnt fp sp mo on) tg mm i rwc a) → (rwc (a + mm) = v) → (∀ z, z < a → rwc z = rw z) → va_P (dC, dI) vwCl (tm_ws h b1 b2 b3 b4 b5 b6 cI cL cZ th cnt fp sp mo on (a + 1 + mm) rwc rl le bl (nI n0)) H → va_D A (tm_ws h b1 b2 b3 b4 b5 b6 cI cL cZ th cnt fp sp mo on (a + 1 + mm) rwc rl le bl (nI n0)) → va_S A s.heap H locs → lv_has ls 5 [(0, .ref h), (1, .int (nI i)), (2, .int (nI v)), (3, .int (nI sq))] → W p l e (headSpec wsX1_walk ({ frames := 1, cells := 0, slots := 0, locals := 25 })).room s m ([.ref h, .int (nI i)] : List Value).toArray below meth c H locs 0 0 (MQ below (va_Qv (S := (Nat → Nat) × Nat) (fun u => tn_bp (tn_E cnt fp sp mo on) tg n0 i u.1 a ∧ u.2 = a + 1 + n0 ∧ ∀ z, z < a → u.1 z = rw z) (fun u t => tn_at dC dI (tn_tys cI cL cZ) A (tm_ws h b1 b2 b3 b4 b5 b6 cI cL cZ th cnt fp sp mo on u.2 u.1 rl le bl (nI n0)) t) A) (([.ref h, .int (nI i)] : List Value).toArray) s 0 0 A) (F0 m 7 ls []) := by
    intro n
    induction n with
    | zero => intro sq v mm rwc H locs ls hsn hms hv hbv hnv hbp hend hlow _ _ _ _; exact absurd hsn (by omega)
    | succ n ih_loopO =>
      intro sq v mm rwc H locs ls hsn hms hv hbv hnv hbp hend hlow hP hD hS hl
      refine lv_iload_n hx hb dX1_walk_7 rfl (lv_at hl 3 rfl) ?_
      refine lv_if_le (tgt := 122) hx hb dX1_walk_8 (by decide) (fun c_8 => ?_) (fun c_8 => ?_)
      · skip
        have hs0 := tn_pos c_8 (by omega)
        subst hs0
        have hm0 : mm = n0 := by omega
        subst hm0
        exact W.vret hx hb hr (fun t ht hW => ⟨⟨(rwc, a + 1 + mm), rfl, ⟨hbp, rfl, hlow⟩, by rw [ht]; exact hP, va_K.moved hW.alike hK, hD⟩, hS.F ht⟩) hS.2.2 dX1_walk_122
      · skip
        obtain ⟨sv, rfl⟩ : ∃ x, sq = x + 1 := by
          rcases Nat.eq_zero_or_pos sq with q | q
          · subst q; exact absurd (show nI 0 ≤ 0 by decide) c_8
          · exact ⟨sq - 1, by omega⟩
        obtain ⟨q0, hq0, hnl⟩ := tm_least (tn_E_in g) hbv
        have loopI : ∀ (n : Nat) (w : Nat) (H : Heap) (locs : List Loc) (ls : Array Slot), (w ≤ q0) → (q0 < w + n) → va_P (dC, dI) vwCl (tm_ws h b1 b2 b3 b4 b5 b6 cI cL cZ th cnt fp sp mo on (a + 1 + mm) rwc rl le bl (nI n0)) H → va_D A (tm_ws h b1 b2 b3 b4 b5 b6 cI cL cZ th cnt fp sp mo on (a + 1 + mm) rwc rl le bl (nI n0)) → va_S A s.heap H locs → lv_has ls 5 [(0, .ref h), (1, .int (nI i)), (2, .int (nI v)), (3, .int (nI (sv + 1))), (4, .int (nI w))] → W p l e (headSpec wsX1_walk ({ frames := 1, cells := 0, slots := 0, locals := 25 })).room s m ([.ref h, .int (nI i)] : List Value).toArray below meth c H locs 0 0 (MQ below (va_Qv (S := (Nat → Nat) × Nat) (fun u => tn_bp (tn_E cnt fp sp mo on) tg n0 i u.1 a ∧ u.2 = a + 1 + n0 ∧ ∀ z, z < a → u.1 z = rw z) (fun u t => tn_at dC dI (tn_tys cI cL cZ) A (tm_ws h b1 b2 b3 b4 b5 b6 cI cL cZ th cnt fp sp mo on u.2 u.1 rl le bl (nI n0)) t) A) (([.ref h, .int (nI i)] : List Value).toArray) s 0 0 A) (F0 m 14 ls []) := by
          intro n
          induction n with
          | zero => intro w H locs ls hwq0 hwn _ _ _ _; exact absurd hwn (by omega)
          | succ n ih_loopI =>
            intro w H locs ls hwq0 hwn hP hD hS hl
            have hw20 : w < 20 := by omega
            refine lv_aload_n hx hb dX1_walk_14 rfl (lv_at hl 0 rfl) ?_
            refine lv_iload_n hx hb dX1_walk_15 rfl (lv_at hl 2 rfl) ?_
            refine lv_iload hx hb dX1_walk_16 (lv_at hl 4 rfl) ?_
            have hF := tn_freeA hD hS hA
            refine va_calll (va_runV (As := [.int (nI v), .int (nI w)]) (rest := []) ⟨hx, hb, hml, hown, hts⟩ (cX1_step_ok l dC dI h b1 b2 b3 b4 b5 b6 cI cL cZ th cnt fp sp mo on (a + 1 + mm) rwc rl le bl (nI n0) H.size g v hv w hw20) (cwV 2 hts gX1_walk_X1_step rfl rfl rfl (by decide +kernel) ⟨Nat.le_of_ble_eq_true rfl, Nat.le_of_ble_eq_true rfl⟩) (tn_preV hK hP hD (ci := 1) rfl 0 rfl) rfl rfl hl.1 rfl (lv_room (Nat.le_of_ble_eq_true rfl)) dX1_walk_18 ⟨Nat.le_of_ble_eq_true rfl, Nat.le_of_ble_eq_true rfl⟩) hS (fun q _ h => hF q h) hF (fun r_18 u_18 t H1 locs ht hvm hw_18 hB hz1 hk1 hS => ?_)
            obtain ⟨hP1, -, hD1⟩ := hB
            rw [ht] at hP1
            have hD := hD1.weaken (fun _ q _ hq => hF q.1 hq)
            clear hP hk1 hF hz1 ht hvm hD1
            generalize H1 = H at hP1 hS ⊢
            have hP := hP1
            clear hP1
            refine lv_ldc2 (v := 9223372036854775807) hx hb hown kc37 dX1_walk_21 ?_
            refine tn_lc_eq (x := r_18) (y := 9223372036854775807) (tgt := 86) hx hb dX1_walk_24 dX1_walk_25 (by decide) (fun c_24 => ?_) (fun c_24 => ?_)
            · skip
              have hnn : ¬ tn_nx (tn_E cnt fp sp mo on) tg v w := fun q => ((tm_nx_iff g (by omega) hv hw20 hlv hnv hbv hw_18).mp q).1 c_24
              refine lv_iinc (v := nI (w + 1)) (lv' := [(4, .int (nI (w + 1))), (0, .ref h), (1, .int (nI i)), (2, .int (nI v)), (3, .int (nI (sv + 1)))]) hx hb dX1_walk_86 hl (k := 4) rfl (tn_inc w) (by decide) rfl (fun ls hl => ?_)
              refine lv_goto (tgt := 14) hx hb dX1_walk_89 (by decide) ?_
              exact ih_loopI (w + 1) _ _ _ (by
                have : w ≠ q0 := fun q => hnn (q ▸ hnl.1)
                omega) (by omega) hP hD hS (lv_sub hl [1, 2, 3, 4, 0] rfl)
            · skip
              refine lv_aload_n hx hb dX1_walk_28 rfl (lv_at hl 0 rfl) ?_
              refine va_get (D := (dC, dI)) (ci := 1) (v := .ref b6) (C := RX1) (T := TX1) (N := 12) hx hb hts hin hown hK hP 0 rfl rfl 9 (by decide) kf27 (fun _ h9 => h9) rfl dX1_walk_29 ?_
              refine lv_bipush (v := nI 20) hx hb dX1_walk_32 (by decide) ?_
              refine lv_iload_n hx hb dX1_walk_34 rfl (lv_at hl 3 rfl) ?_
              refine lv_iconst (v := nI 1) hx hb dX1_walk_35 (by decide) ?_
              refine tn_isub2 (a := (sv + 1)) (b := 1) (d := sv) hx hb (by omega) dX1_walk_36 ?_
              refine tn_imul (a := 20) (b := sv) hx hb dX1_walk_37 ?_
              refine lv_iload hx hb dX1_walk_38 (lv_at hl 4 rfl) ?_
              refine tn_iadd (a := (20 * sv)) (b := w) hx hb dX1_walk_40 ?_
              refine tn_lald (i := ((20 * sv) + w)) (v := le ((20 * sv) + w)) hx hb hK hP 6 1 rfl rfl (by omega) (by decide) rfl dX1_walk_41 ?_
              refine lv_ldc2 (v := 9223372036854775807) hx hb hown kc37 dX1_walk_42 ?_
              refine tn_lc_eq (x := (le ((20 * sv) + w))) (y := 9223372036854775807) (tgt := 86) hx hb dX1_walk_45 dX1_walk_46 (by decide) (fun c_45 => ?_) (fun c_45 => ?_)
              · skip
                have hnn : ¬ tn_nx (tn_E cnt fp sp mo on) tg v w := fun q => ((tm_nx_iff g (by omega) hv hw20 hlv hnv hbv hw_18).mp q).2.1 c_45
                refine lv_iinc (v := nI (w + 1)) (lv' := [(4, .int (nI (w + 1))), (0, .ref h), (1, .int (nI i)), (2, .int (nI v)), (3, .int (nI (sv + 1)))]) hx hb dX1_walk_86 hl (k := 4) rfl (tn_inc w) (by decide) rfl (fun ls hl => ?_)
                refine lv_goto (tgt := 14) hx hb dX1_walk_89 (by decide) ?_
                exact ih_loopI (w + 1) _ _ _ (by
                  have : w ≠ q0 := fun q => hnn (q ▸ hnl.1)
                  omega) (by omega) hP hD hS (lv_sub hl [1, 2, 3, 4, 0] rfl)
              · skip
                refine lv_aload_n hx hb dX1_walk_49 rfl (lv_at hl 0 rfl) ?_
                refine lv_iload_n hx hb dX1_walk_50 rfl (lv_at hl 2 rfl) ?_
                refine lv_iload hx hb dX1_walk_51 (lv_at hl 4 rfl) ?_
                have hF := tn_freeA hD hS hA
                refine va_calll (va_runV (As := [.int (nI v), .int (nI w)]) (rest := []) ⟨hx, hb, hml, hown, hts⟩ (cX1_step_ok l dC dI h b1 b2 b3 b4 b5 b6 cI cL cZ th cnt fp sp mo on (a + 1 + mm) rwc rl le bl (nI n0) H.size g v hv w hw20) (cwV 2 hts gX1_walk_X1_step rfl rfl rfl (by decide +kernel) ⟨Nat.le_of_ble_eq_true rfl, Nat.le_of_ble_eq_true rfl⟩) (tn_preV hK hP hD (ci := 1) rfl 0 rfl) rfl rfl hl.1 rfl (lv_room (Nat.le_of_ble_eq_true rfl)) dX1_walk_53 ⟨Nat.le_of_ble_eq_true rfl, Nat.le_of_ble_eq_true rfl⟩) hS (fun q _ h => hF q h) hF (fun r_53 u_53 t H1 locs ht hvm hw_53 hB hz1 hk1 hS => ?_)
                obtain ⟨hP1, -, hD1⟩ := hB
                rw [ht] at hP1
                have hD := hD1.weaken (fun _ q _ hq => hF q.1 hq)
                clear hP hk1 hF hz1 ht hvm hD1
                generalize H1 = H at hP1 hS ⊢
                have hP := hP1
                clear hP1
                refine lv_aload_n hx hb dX1_walk_56 rfl (lv_at hl 0 rfl) ?_
                refine va_get (D := (dC, dI)) (ci := 1) (v := .ref b6) (C := RX1) (T := TX1) (N := 12) hx hb hts hin hown hK hP 0 rfl rfl 9 (by decide) kf27 (fun _ h9 => h9) rfl dX1_walk_57 ?_
                refine lv_bipush (v := nI 20) hx hb dX1_walk_60 (by decide) ?_
                refine lv_iload_n hx hb dX1_walk_62 rfl (lv_at hl 3 rfl) ?_
                refine lv_iconst (v := nI 1) hx hb dX1_walk_63 (by decide) ?_
                refine tn_isub2 (a := (sv + 1)) (b := 1) (d := sv) hx hb (by omega) dX1_walk_64 ?_
                refine tn_imul (a := 20) (b := sv) hx hb dX1_walk_65 ?_
                refine lv_iload hx hb dX1_walk_66 (lv_at hl 4 rfl) ?_
                refine tn_iadd (a := (20 * sv)) (b := w) hx hb dX1_walk_68 ?_
                refine tn_lald (i := ((20 * sv) + w)) (v := le ((20 * sv) + w)) hx hb hK hP 6 1 rfl rfl (by omega) (by decide) rfl dX1_walk_69 ?_
                refine lv_ladd hx hb dX1_walk_70 ?_
                refine lv_aload_n hx hb dX1_walk_71 rfl (lv_at hl 0 rfl) ?_
                refine va_get (D := (dC, dI)) (ci := 1) (v := .ref b6) (C := RX1) (T := TX1) (N := 12) hx hb hts hin hown hK hP 0 rfl rfl 9 (by decide) kf27 (fun _ h9 => h9) rfl dX1_walk_72 ?_
                refine lv_bipush (v := nI 20) hx hb dX1_walk_75 (by decide) ?_
                refine lv_iload_n hx hb dX1_walk_77 rfl (lv_at hl 3 rfl) ?_
                refine tn_imul (a := 20) (b := (sv + 1)) hx hb dX1_walk_78 ?_
                refine lv_iload_n hx hb dX1_walk_79 rfl (lv_at hl 2 rfl) ?_
                refine tn_iadd (a := (20 * (sv + 1))) (b := v) hx hb dX1_walk_80 ?_
                refine tn_lald (i := ((20 * (sv + 1)) + v)) (v := le ((20 * (sv + 1)) + v)) hx hb hK hP 6 1 rfl rfl (by omega) (by decide) rfl dX1_walk_81 ?_
                refine tn_lc_eq (x := (r_53 + (le ((20 * sv) + w)))) (y := (le ((20 * (sv + 1)) + v))) (tgt := 92) hx hb dX1_walk_82 dX1_walk_83 (by decide) (fun c_82 => ?_) (fun c_82 => ?_)
                · skip
                  have e53 := tm_st_eq hw_18 hw_53
                  have hnn : tn_nx (tn_E cnt fp sp mo on) tg v w := (tm_nx_iff g (by omega) hv hw20 hlv hnv hbv hw_53).mpr ⟨e53 ▸ c_24, c_45, c_82⟩
                  have hwq : w = q0 := Nat.le_antisymm hwq0 (hnl.2 w hnn)
                  subst hwq
                  obtain ⟨hn2, hb2⟩ := tm_nx_go (by omega) hw20 hlv hbv hnn
                  refine lv_aload_n hx hb dX1_walk_92 rfl (lv_at hl 0 rfl) ?_
                  refine va_get (D := (dC, dI)) (ci := 1) (v := .ref b5) (C := RX1) (T := TX1) (N := 12) hx hb hts hin hown hK hP 0 rfl rfl 7 (by decide) kf24 (fun _ h9 => h9) rfl dX1_walk_93 ?_
                  refine lv_aload_n hx hb dX1_walk_96 rfl (lv_at hl 0 rfl) ?_
                  refine va_get (D := (dC, dI)) (ci := 1) (v := .int (nI (a + 1 + mm))) (C := RX1) (T := TX1) (N := 12) hx hb hts hin hown hK hP 0 rfl rfl 6 (by decide) kf50 (fun _ h9 => h9) rfl dX1_walk_97 ?_
                  refine lv_iload hx hb dX1_walk_100 (lv_at hl 4 rfl) ?_
                  refine tn_iast (i := (a + 1 + mm)) (f' := (fun zz => nI (va_up rwc (a + 1 + mm) w zz))) hx hb hK hP hD hS 5 0 rfl rfl (by omega) (by decide) (tn_updN rwc (a + 1 + mm) w) dX1_walk_102 (fun H locs hP hD hS => ?_)
                  have hP : va_P (dC, dI) vwCl (tm_ws h b1 b2 b3 b4 b5 b6 cI cL cZ th cnt fp sp mo on (a + 1 + mm) (va_up rwc (a + 1 + mm) w) rl le bl (nI n0)) H := hP
                  have hD : va_D A (tm_ws h b1 b2 b3 b4 b5 b6 cI cL cZ th cnt fp sp mo on (a + 1 + mm) (va_up rwc (a + 1 + mm) w) rl le bl (nI n0)) := hD
                  refine lv_aload_n hx hb dX1_walk_103 rfl (lv_at hl 0 rfl) ?_
                  refine lv_dup hx hb dX1_walk_104 rfl ?_
                  refine va_get (D := (dC, dI)) (ci := 1) (v := .int (nI (a + 1 + mm))) (C := RX1) (T := TX1) (N := 12) hx hb hts hin hown hK hP 0 rfl rfl 6 (by decide) kf50 (fun _ h9 => h9) rfl dX1_walk_105 ?_
                  refine lv_iconst (v := nI 1) hx hb dX1_walk_108 (by decide) ?_
                  refine tn_iadd (a := (a + 1 + mm)) (b := 1) hx hb dX1_walk_109 ?_
                  refine va_put (D := (dC, dI)) (ci := 1) (v := .int (nI ((a + 1 + mm) + 1))) (ty := .int) (C := RX1) (T := TX1) (N := 12) hx hb hts hin tyX1 tyX1_ok nmX1 hown hK hP hD hS 0 rfl rfl 6 (by decide) kf50 (fun _ h9 => h9) rfl (by decide +kernel) rfl rfl (Nat.le_of_ble_eq_true rfl) dX1_walk_110 (fun H locs hP hD hS => ?_)
                  have hP : va_P (dC, dI) vwCl (tm_ws h b1 b2 b3 b4 b5 b6 cI cL cZ th cnt fp sp mo on ((a + 1 + mm) + 1) (va_up rwc (a + 1 + mm) w) rl le bl (nI n0)) H := hP
                  have hD : va_D A (tm_ws h b1 b2 b3 b4 b5 b6 cI cL cZ th cnt fp sp mo on ((a + 1 + mm) + 1) (va_up rwc (a + 1 + mm) w) rl le bl (nI n0)) := hD
                  refine lv_iload hx hb dX1_walk_113 (lv_at hl 4 rfl) ?_
                  refine lv_istore_n (lv' := [(2, .int (nI w)), (0, .ref h), (1, .int (nI i)), (3, .int (nI (sv + 1))), (4, .int (nI w))]) hx hb dX1_walk_115 rfl hl (by decide) rfl (fun ls hl => ?_)
                  refine lv_iinc (v := nI sv) (lv' := [(3, .int (nI sv)), (2, .int (nI w)), (0, .ref h), (1, .int (nI i)), (4, .int (nI w))]) hx hb dX1_walk_116 hl (k := 3) rfl (tn_dec sv) (by decide) rfl (fun ls hl => ?_)
                  refine lv_goto (tgt := 7) hx hb dX1_walk_119 (by decide) ?_
                  exact ih_loopO sv w (mm + 1) (va_up rwc (a + 1 + mm) w) _ _ _ (by omega) (by omega) hw20 hb2 hn2 (tm_bp_s hbp hend hnl) (by simp [va_up, show a + (mm + 1) = a + 1 + mm by omega]) (fun z hz => by simp [va_up, show ¬ z = a + 1 + mm by omega]; exact hlow z hz) hP hD hS (lv_sub hl [2, 3, 1, 0] rfl)
                · skip
                  have hnn : ¬ tn_nx (tn_E cnt fp sp mo on) tg v w := fun q => c_82 (((tm_nx_iff g (by omega) hv hw20 hlv hnv hbv hw_53).mp q).2.2)
                  refine lv_iinc (v := nI (w + 1)) (lv' := [(4, .int (nI (w + 1))), (0, .ref h), (1, .int (nI i)), (2, .int (nI v)), (3, .int (nI (sv + 1)))]) hx hb dX1_walk_86 hl (k := 4) rfl (tn_inc w) (by decide) rfl (fun ls hl => ?_)
                  refine lv_goto (tgt := 14) hx hb dX1_walk_89 (by decide) ?_
                  exact ih_loopI (w + 1) _ _ _ (by
                    have : w ≠ q0 := fun q => hnn (q ▸ hnl.1)
                    omega) (by omega) hP hD hS (lv_sub hl [1, 2, 3, 4, 0] rfl)
        refine lv_iconst (v := nI 0) hx hb dX1_walk_11 (by decide) ?_
        refine lv_istore (lv' := [(4, .int (nI 0)), (0, .ref h), (1, .int (nI i)), (2, .int (nI v)), (3, .int (nI (sv + 1)))]) hx hb dX1_walk_12 hl (by decide) rfl (fun ls hl => ?_)
        exact loopI (q0 + 1) 0 _ _ _ (Nat.zero_le _) (by omega) hP hD hS (lv_sub hl [1, 2, 3, 4, 0] rfl)
  refine lv_iload_n hx hb dX1_walk_0 rfl (lv_at hl 1 rfl) ?_
  refine lv_istore_n (lv' := [(2, .int (nI i)), (0, .ref h), (1, .int (nI i))]) hx hb dX1_walk_1 rfl hl (by decide) rfl (fun ls hl => ?_)
  refine lv_aload_n hx hb dX1_walk_2 rfl (lv_at hl 1 rfl) ?_
  refine va_get (D := (dC, dI)) (ci := 1) (v := .int (nI n0)) (C := RX1) (T := TX1) (N := 12) hx hb hts hin hown hK hP 0 rfl rfl 11 (by decide) kf39 (fun _ h9 => h9) rfl dX1_walk_3 ?_
  refine lv_istore_n (lv' := [(3, .int (nI n0)), (2, .int (nI i)), (0, .ref h), (1, .int (nI i))]) hx hb dX1_walk_6 rfl hl (by decide) rfl (fun ls hl => ?_)
  exact loopO (n0 + 1) n0 i 0 rw _ _ _ (by omega) (by omega) hi hbe hne ⟨hai, fun s hs => absurd hs (by omega)⟩ hai (fun _ _ => rfl) hP hD hS (lv_sub hl [2, 3, 1, 0] rfl)
end
section
set_option maxHeartbeats 4000000 in
set_option maxRecDepth 100000 in
/-- isBad(i, j, cv) -/
theorem cX1_isBad_ok (l : Launch) (dC : Nat → ClassId) (dI : Nat → Nat → Nat) (h b1 b2 b3 b4 b5 b6 : Nat) (cI cL cZ : ClassId) (th cnt : Nat) (fp sp : Nat → Nat) (mo : Nat → Int64) (on : Nat → Bool) (rs : Nat) (rw : Nat → Nat) (rl : Int64) (le : Nat → Int64) (bl : Int64) (bs : Int32) (sz : Nat) (g : tn_good cnt fp sp mo) (ok : tn_ok (tn_E cnt fp sp mo on)) (i : Nat) (hi : i < 20) (j : Nat) (hj : j < 20) (cv : Int64) (hc1 : -1000000000000 ≤ cv.toInt) (hc2 : cv.toInt ≤ 1000000000000) : Met l yX1_isBad wsX1_isBad ({ frames := 2, cells := 0, slots := 0, locals := 49 }) (va_Pc [.ref h, .int (nI i), .int (nI j), .long cv] (tn_Pre dC dI (tn_tys cI cL cZ) (tm_ws h b1 b2 b3 b4 b5 b6 cI cL cZ th cnt fp sp mo on rs rw rl le bl bs) sz)) (va_Qi (S := ((Nat → Int64) × Int64 × Int32) × (Nat → Nat) × Nat × Int64) (fun r u => sp_ref (tn_E cnt fp sp mo on) i j cv.toInt r rw rs rl u.2.1 u.2.2.1 u.2.2.2) (fun u t => tn_at dC dI (tn_tys cI cL cZ) (va_A (tm_ws h b1 b2 b3 b4 b5 b6 cI cL cZ th cnt fp sp mo on rs rw rl le bl bs) sz) (tm_ws h b1 b2 b3 b4 b5 b6 cI cL cZ th cnt fp sp mo on u.2.2.1 u.2.1 u.2.2.2 u.1.1 u.1.2.1 u.1.2.2) t) (va_A (tm_ws h b1 b2 b3 b4 b5 b6 cI cL cZ th cnt fp sp mo on rs rw rl le bl bs) sz)) 0 0 (va_A (tm_ws h b1 b2 b3 b4 b5 b6 cI cL cZ th cnt fp sp mo on rs rw rl le bl bs) sz) := by
  refine Met.ofW (cc := cX1_isBad) (maxL := 5) (ret := (some .boolean)) (by decide) rfl ?_
  intro p e s m args below meth c s₁ B hml hv
  obtain ⟨rfl, hsz, hP, hK, hD0⟩ := hv
  have hx := B.exec
  have hb := B.bytes
  have hr := B.returns
  have hts := atoms_spec (ws := wsX1_isBad) B.pre
  have hown : s.vm.findClass RX1 = some m.cls := findClass_of_methodNamed B.named
  have hlocks := B.notSynchronized
  subst hsz
  have hD := hD0.self (sz := s.heap.size)
  generalize hAe : va_A (tm_ws h b1 b2 b3 b4 b5 b6 cI cL cZ th cnt fp sp mo on rs rw rl le bl bs) s.heap.size = A at hD ⊢
  have hA : ∀ q : Nat, s.heap.size ≤ q → A q := fun q h => by rw [← hAe]; exact Or.inr h
  have hS : va_S A s.heap s.heap [] := va_S.rf
  have hl := lv_entry ([.ref h, .int (nI i), .int (nI j), .long cv]) (n := 5) (Nat.le_of_ble_eq_true rfl)
  rw [lg_entry_eq]
  generalize (lg_sl ([.ref h, .int (nI i), .int (nI j), .long cv]) ++ List.replicate (5 - (lg_sl ([.ref h, .int (nI i), .int (nI j), .long cv])).length) Slot.unset).toArray = ls at hl ⊢
  have hl : lv_has ls 5 [(0, .ref h), (1, .int (nI i)), (2, .int (nI j)), (3, .long cv)] := hl
  have kf42 := hts (.fieldLink RX1 42 "TimeNetModel" "bestLength" "J") (by decide +kernel)
  have kf24 := hts (.fieldLink RX1 24 "TimeNetModel" "row" "[I") (by decide +kernel)
  have kf50 := hts (.fieldLink RX1 50 "TimeNetModel" "rowSize" "I") (by decide +kernel)
  have kf61 := hts (.fieldLink RX1 61 "TimeNetModel" "rowLength" "J") (by decide +kernel)
  have hin : ∀ w ∈ u_ws RX1 TX1 12, w ∈ wsX1_isBad := by decide +kernel
  have hc := g.1
  refine lv_aload_n hx hb dX1_isBad_0 rfl (lv_at hl 0 rfl) ?_
  refine lv_iload_n hx hb dX1_isBad_1 rfl (lv_at hl 2 rfl) ?_
  refine lv_iload_n hx hb dX1_isBad_2 rfl (lv_at hl 1 rfl) ?_
  have hF := tn_freeA hD hS hA
  refine va_calli (va_runV (As := [.int (nI j), .int (nI i)]) (rest := []) ⟨hx, hb, hml, hown, hts⟩ (cX1_best_ok l dC dI h b1 b2 b3 b4 b5 b6 cI cL cZ th cnt fp sp mo on rs rw rl le bl bs s.heap.size g ok j hj i hi) (cwV 2 hts gX1_isBad_X1_best rfl rfl rfl (by decide +kernel) ⟨Nat.le_of_ble_eq_true rfl, Nat.le_of_ble_eq_true rfl⟩) (tn_preV hK hP hD (ci := 1) rfl 0 rfl) rfl rfl hl.1 rfl (lv_room (Nat.le_of_ble_eq_true rfl)) dX1_isBad_3 ⟨Nat.le_of_ble_eq_true rfl, Nat.le_of_ble_eq_true rfl⟩) hS (fun q _ h => hF q h) hF (fun r_3 u_3 t H1 locs ht hvm hw_3 hB hz1 hk1 hS => ?_)
  obtain ⟨hP1, -, hD1⟩ := hB
  rw [ht] at hP1
  have hD := hD1.weaken (fun _ q _ hq => hF q.1 hq)
  clear hP hk1 hF hz1 ht hvm hD1
  generalize H1 = H at hP1 hS ⊢
  have hP := hP1
  clear hP1
  refine lv_if_eq (tgt := 20) hx hb dX1_isBad_6 (by decide) (fun c_6 => ?_) (fun c_6 => ?_)
  · skip
    have hz : r_3 = nI 0 := c_6
    refine lv_iconst (v := nI 0) hx hb dX1_isBad_20 (by decide) ?_
    exact W.zret (v := nI 0) hx hb hr rfl (fun t ht hW => ⟨⟨nI 0, ((u_3.1, u_3.2.1, u_3.2.2), rw, rs, rl), rfl, Or.inr ⟨tm_ref_no (tn_E_bd g) hc1 hc2 hw_3 (Or.inl hz), rfl, rfl, rfl, rfl⟩, by rw [ht]; exact hP, va_K.moved hW.alike hK, hD⟩, hS.F ht⟩) hS.2.2 dX1_isBad_21
  · skip
    have hz : r_3 = nI 1 := by
      rcases hw_3.2 with ⟨q, _⟩ | ⟨q, _⟩
      · exact absurd (q : r_3 = 0) c_6
      · exact q
    obtain ⟨n0, hn0, hbs, hbl, hbx, hbe⟩ : ∃ n, n ≤ 19 ∧ u_3.2.2 = nI n ∧ u_3.2.1 = u_3.1 (20 * n + j) ∧ u_3.2.1 ≠ tn_MX ∧ tn_best (tn_E cnt fp sp mo on) j i u_3.2.1.toInt n := by
      rcases hw_3.2 with ⟨q, _⟩ | ⟨_, q⟩
      · exact absurd (q : r_3 = 0) c_6
      · exact q
    refine lv_lload_n hx hb dX1_isBad_9 rfl (lv_at hl 3 rfl) ?_
    refine lv_aload_n hx hb dX1_isBad_10 rfl (lv_at hl 0 rfl) ?_
    refine va_get (D := (dC, dI)) (ci := 1) (v := .long u_3.2.1) (C := RX1) (T := TX1) (N := 12) hx hb hts hin hown hK hP 0 rfl rfl 10 (by decide) kf42 (fun _ h9 => h9) rfl dX1_isBad_11 ?_
    refine lv_ladd hx hb dX1_isBad_14 ?_
    refine lv_lconst (v := 0) hx hb dX1_isBad_15 (by decide) ?_
    refine tn_lc_lt (x := (cv + u_3.2.1)) (y := 0) (tgt := 22) hx hb dX1_isBad_16 dX1_isBad_17 (by decide) (fun c_16 => ?_) (fun c_16 => ?_)
    · skip
      refine lv_aload_n hx hb dX1_isBad_22 rfl (lv_at hl 0 rfl) ?_
      refine va_get (D := (dC, dI)) (ci := 1) (v := .ref b5) (C := RX1) (T := TX1) (N := 12) hx hb hts hin hown hK hP 0 rfl rfl 7 (by decide) kf24 (fun _ h9 => h9) rfl dX1_isBad_23 ?_
      refine lv_iconst (v := nI 0) hx hb dX1_isBad_26 (by decide) ?_
      refine lv_iload_n hx hb dX1_isBad_27 rfl (lv_at hl 1 rfl) ?_
      refine tn_iast (i := 0) (f' := (fun zz => nI (va_up rw 0 i zz))) hx hb hK hP hD hS 5 0 rfl rfl (by omega) (by decide) (tn_updN rw 0 i) dX1_isBad_28 (fun H locs hP hD hS => ?_)
      have hP : va_P (dC, dI) vwCl (tm_ws h b1 b2 b3 b4 b5 b6 cI cL cZ th cnt fp sp mo on rs (va_up rw 0 i) rl u_3.1 u_3.2.1 u_3.2.2) H := hP
      have hD : va_D A (tm_ws h b1 b2 b3 b4 b5 b6 cI cL cZ th cnt fp sp mo on rs (va_up rw 0 i) rl u_3.1 u_3.2.1 u_3.2.2) := hD
      refine lv_aload_n hx hb dX1_isBad_29 rfl (lv_at hl 0 rfl) ?_
      refine va_get (D := (dC, dI)) (ci := 1) (v := .ref b5) (C := RX1) (T := TX1) (N := 12) hx hb hts hin hown hK hP 0 rfl rfl 7 (by decide) kf24 (fun _ h9 => h9) rfl dX1_isBad_30 ?_
      refine lv_iconst (v := nI 1) hx hb dX1_isBad_33 (by decide) ?_
      refine lv_iload_n hx hb dX1_isBad_34 rfl (lv_at hl 2 rfl) ?_
      refine tn_iast (i := 1) (f' := (fun zz => nI (va_up (va_up rw 0 i) 1 j zz))) hx hb hK hP hD hS 5 0 rfl rfl (by omega) (by decide) (tn_updN (va_up rw 0 i) 1 j) dX1_isBad_35 (fun H locs hP hD hS => ?_)
      have hP : va_P (dC, dI) vwCl (tm_ws h b1 b2 b3 b4 b5 b6 cI cL cZ th cnt fp sp mo on rs (va_up (va_up rw 0 i) 1 j) rl u_3.1 u_3.2.1 u_3.2.2) H := hP
      have hD : va_D A (tm_ws h b1 b2 b3 b4 b5 b6 cI cL cZ th cnt fp sp mo on rs (va_up (va_up rw 0 i) 1 j) rl u_3.1 u_3.2.1 u_3.2.2) := hD
      refine lv_aload_n hx hb dX1_isBad_36 rfl (lv_at hl 0 rfl) ?_
      refine lv_iconst (v := nI 2) hx hb dX1_isBad_37 (by decide) ?_
      refine va_put (D := (dC, dI)) (ci := 1) (v := .int (nI 2)) (ty := .int) (C := RX1) (T := TX1) (N := 12) hx hb hts hin tyX1 tyX1_ok nmX1 hown hK hP hD hS 0 rfl rfl 6 (by decide) kf50 (fun _ h9 => h9) rfl (by decide +kernel) rfl rfl (Nat.le_of_ble_eq_true rfl) dX1_isBad_38 (fun H locs hP hD hS => ?_)
      have hP : va_P (dC, dI) vwCl (tm_ws h b1 b2 b3 b4 b5 b6 cI cL cZ th cnt fp sp mo on 2 (va_up (va_up rw 0 i) 1 j) rl u_3.1 u_3.2.1 u_3.2.2) H := hP
      have hD : va_D A (tm_ws h b1 b2 b3 b4 b5 b6 cI cL cZ th cnt fp sp mo on 2 (va_up (va_up rw 0 i) 1 j) rl u_3.1 u_3.2.1 u_3.2.2) := hD
      refine lv_aload_n hx hb dX1_isBad_41 rfl (lv_at hl 0 rfl) ?_
      refine lv_iload_n hx hb dX1_isBad_42 rfl (lv_at hl 2 rfl) ?_
      have hF := tn_freeA hD hS hA
      refine va_callv (va_runV (As := [.int (nI j)]) (rest := []) ⟨hx, hb, hml, hown, hts⟩ (cX1_walk_ok l dC dI h b1 b2 b3 b4 b5 b6 cI cL cZ th cnt fp sp mo on 2 (va_up (va_up rw 0 i) 1 j) rl u_3.1 u_3.2.1 u_3.2.2 H.size g j hj i 1 n0 rfl (by simp [va_up]) hn0 hbs hw_3.1 (hbl ▸ hbx) (hbl ▸ hbe) (by omega)) (cwV 1 hts gX1_isBad_X1_walk rfl rfl rfl (by decide +kernel) ⟨Nat.le_of_ble_eq_true rfl, Nat.le_of_ble_eq_true rfl⟩) (tn_preV hK hP hD (ci := 1) rfl 0 rfl) rfl rfl hl.1 rfl (lv_room (Nat.le_of_ble_eq_true rfl)) dX1_isBad_43 ⟨Nat.le_of_ble_eq_true rfl, Nat.le_of_ble_eq_true rfl⟩) hS (fun q _ h => hF q h) hF (fun u_43 t H1 locs ht hvm hw_43 hB hz1 hk1 hS => ?_)
      obtain ⟨hP1, -, hD1⟩ := hB
      rw [ht] at hP1
      have hD := hD1.weaken (fun _ q _ hq => hF q.1 hq)
      clear hP hk1 hF hz1 ht hvm hD1
      generalize H1 = H at hP1 hS ⊢
      have hP := hP1
      clear hP1
      refine lv_aload_n hx hb dX1_isBad_46 rfl (lv_at hl 0 rfl) ?_
      refine lv_lload_n hx hb dX1_isBad_47 rfl (lv_at hl 3 rfl) ?_
      refine lv_aload_n hx hb dX1_isBad_48 rfl (lv_at hl 0 rfl) ?_
      refine va_get (D := (dC, dI)) (ci := 1) (v := .long u_3.2.1) (C := RX1) (T := TX1) (N := 12) hx hb hts hin hown hK hP 0 rfl rfl 10 (by decide) kf42 (fun _ h9 => h9) rfl dX1_isBad_49 ?_
      refine lv_ladd hx hb dX1_isBad_52 ?_
      refine va_put (D := (dC, dI)) (ci := 1) (v := .long (cv + u_3.2.1)) (ty := .long) (C := RX1) (T := TX1) (N := 12) hx hb hts hin tyX1 tyX1_ok nmX1 hown hK hP hD hS 0 rfl rfl 8 (by decide) kf61 (fun _ h9 => h9) rfl (by decide +kernel) rfl rfl (Nat.le_of_ble_eq_true rfl) dX1_isBad_53 (fun H locs hP hD hS => ?_)
      have hP : va_P (dC, dI) vwCl (tm_ws h b1 b2 b3 b4 b5 b6 cI cL cZ th cnt fp sp mo on u_43.2 u_43.1 (cv + u_3.2.1) u_3.1 u_3.2.1 u_3.2.2) H := hP
      have hD : va_D A (tm_ws h b1 b2 b3 b4 b5 b6 cI cL cZ th cnt fp sp mo on u_43.2 u_43.1 (cv + u_3.2.1) u_3.1 u_3.2.1 u_3.2.2) := hD
      refine lv_iconst (v := nI 1) hx hb dX1_isBad_56 (by decide) ?_
      exact W.zret (v := nI 1) hx hb hr rfl (fun t ht hW => ⟨⟨nI 1, ((u_3.1, u_3.2.1, u_3.2.2), u_43.1, u_43.2, cv + u_3.2.1), rfl, tm_ref_yes (tn_E_bd g) hc1 hc2 hn0 hbe c_16 rw rs rl hw_43.1 hw_43.2.1 ((hw_43.2.2 0 (by omega)).trans (by simp [va_up])), by rw [ht]; exact hP, va_K.moved hW.alike hK, hD⟩, hS.F ht⟩) hS.2.2 dX1_isBad_57
    · skip
      refine lv_iconst (v := nI 0) hx hb dX1_isBad_20 (by decide) ?_
      exact W.zret (v := nI 0) hx hb hr rfl (fun t ht hW => ⟨⟨nI 0, ((u_3.1, u_3.2.1, u_3.2.2), rw, rs, rl), rfl, Or.inr ⟨tm_ref_no (tn_E_bd g) hc1 hc2 hw_3 (Or.inr ⟨hz, c_16⟩), rfl, rfl, rfl, rfl⟩, by rw [ht]; exact hP, va_K.moved hW.alike hK, hD⟩, hS.F ht⟩) hS.2.2 dX1_isBad_21
set_option maxHeartbeats 4000000 in
set_option maxRecDepth 100000 in
/-- add(x, y, cv) -/
theorem cX1_add_ok (l : Launch) (dC : Nat → ClassId) (dI : Nat → Nat → Nat) (h b1 b2 b3 b4 b5 b6 : Nat) (cI cL cZ : ClassId) (th cnt : Nat) (fp sp : Nat → Nat) (mo : Nat → Int64) (on : Nat → Bool) (rs : Nat) (rw : Nat → Nat) (rl : Int64) (le : Nat → Int64) (bl : Int64) (bs : Int32) (sz : Nat) (g : tn_good cnt fp sp mo) (ok : tn_ok (tn_E cnt fp sp mo on)) (x y : Int32) (cv : Int64) : Met l yX1_add wsX1_add ({ frames := 3, cells := 0, slots := 0, locals := 73 }) (va_Pc [.ref h, .int x, .int y, .long cv] (tn_Pre dC dI (tn_tys cI cL cZ) (tm_ws h b1 b2 b3 b4 b5 b6 cI cL cZ th cnt fp sp mo on rs rw rl le bl bs) sz)) (va_Qi (S := ((Nat → Int64) × Int64 × Int32) × Nat × (Nat → Nat) × (Nat → Nat) × (Nat → Int64) × (Nat → Bool) × (Nat → Nat) × Nat × Int64) (fun r u => sp_add cnt fp sp mo on x y cv r rw rs rl u.2.1 u.2.2.1 u.2.2.2.1 u.2.2.2.2.1 u.2.2.2.2.2.1 u.2.2.2.2.2.2.1 u.2.2.2.2.2.2.2.1 u.2.2.2.2.2.2.2.2) (fun u t => tn_at dC dI (tn_tys cI cL cZ) (va_A (tm_ws h b1 b2 b3 b4 b5 b6 cI cL cZ th cnt fp sp mo on rs rw rl le bl bs) sz) (tm_ws h b1 b2 b3 b4 b5 b6 cI cL cZ 0 u.2.1 u.2.2.1 u.2.2.2.1 u.2.2.2.2.1 u.2.2.2.2.2.1 u.2.2.2.2.2.2.2.1 u.2.2.2.2.2.2.1 u.2.2.2.2.2.2.2.2 u.1.1 u.1.2.1 u.1.2.2) t) (va_A (tm_ws h b1 b2 b3 b4 b5 b6 cI cL cZ th cnt fp sp mo on rs rw rl le bl bs) sz)) 0 0 (va_A (tm_ws h b1 b2 b3 b4 b5 b6 cI cL cZ th cnt fp sp mo on rs rw rl le bl bs) sz) := by
  refine Met.ofW (cc := cX1_add) (maxL := 5) (ret := (some .int)) (by decide) rfl ?_
  intro p e s m args below meth c s₁ B hml hv
  obtain ⟨rfl, hsz, hP, hK, hD0⟩ := hv
  have hx := B.exec
  have hb := B.bytes
  have hr := B.returns
  have hts := atoms_spec (ws := wsX1_add) B.pre
  have hown : s.vm.findClass RX1 = some m.cls := findClass_of_methodNamed B.named
  have hlocks := B.notSynchronized
  subst hsz
  have hD := hD0.self (sz := s.heap.size)
  generalize hAe : va_A (tm_ws h b1 b2 b3 b4 b5 b6 cI cL cZ th cnt fp sp mo on rs rw rl le bl bs) s.heap.size = A at hD ⊢
  have hA : ∀ q : Nat, s.heap.size ≤ q → A q := fun q h => by rw [← hAe]; exact Or.inr h
  have hS : va_S A s.heap s.heap [] := va_S.rf
  have hl := lv_entry ([.ref h, .int x, .int y, .long cv]) (n := 5) (Nat.le_of_ble_eq_true rfl)
  rw [lg_entry_eq]
  generalize (lg_sl ([.ref h, .int x, .int y, .long cv]) ++ List.replicate (5 - (lg_sl ([.ref h, .int x, .int y, .long cv])).length) Slot.unset).toArray = ls at hl ⊢
  have hl : lv_has ls 5 [(0, .ref h), (1, .int x), (2, .int y), (3, .long cv)] := hl
  have kf30 := hts (.fieldLink RX1 30 "TimeNetModel" "thrown" "I") (by decide +kernel)
  have kc68 := hts (.constantLong RX1 68 (-1000000000000)) (by decide +kernel)
  have kc70 := hts (.constantLong RX1 70 (1000000000000)) (by decide +kernel)
  have kf34 := hts (.fieldLink RX1 34 "TimeNetModel" "size" "I") (by decide +kernel)
  have kf7 := hts (.fieldLink RX1 7 "TimeNetModel" "first" "[I") (by decide +kernel)
  have kf13 := hts (.fieldLink RX1 13 "TimeNetModel" "second" "[I") (by decide +kernel)
  have kf16 := hts (.fieldLink RX1 16 "TimeNetModel" "c" "[J") (by decide +kernel)
  have kf20 := hts (.fieldLink RX1 20 "TimeNetModel" "isOn" "[Z") (by decide +kernel)
  have hin : ∀ w ∈ u_ws RX1 TX1 12, w ∈ wsX1_add := by decide +kernel
  have hc := g.1
  refine lv_aload_n hx hb dX1_add_0 rfl (lv_at hl 0 rfl) ?_
  refine lv_iconst (v := nI 0) hx hb dX1_add_1 (by decide) ?_
  refine va_put (D := (dC, dI)) (ci := 1) (v := .int (nI 0)) (ty := .int) (C := RX1) (T := TX1) (N := 12) hx hb hts hin tyX1 tyX1_ok nmX1 hown hK hP hD hS 0 rfl rfl 0 (by decide) kf30 (fun _ h9 => h9) rfl (by decide +kernel) rfl rfl (Nat.le_of_ble_eq_true rfl) dX1_add_2 (fun H locs hP hD hS => ?_)
  have hP : va_P (dC, dI) vwCl (tm_ws h b1 b2 b3 b4 b5 b6 cI cL cZ 0 cnt fp sp mo on rs rw rl le bl bs) H := hP
  have hD : va_D A (tm_ws h b1 b2 b3 b4 b5 b6 cI cL cZ 0 cnt fp sp mo on rs rw rl le bl bs) := hD
  refine lv_iload_n hx hb dX1_add_5 rfl (lv_at hl 1 rfl) ?_
  have hF := tn_freeA hD hS hA
  refine va_calli (va_runS (As := [.int x]) (rest := []) ⟨hx, hb, hml, hown, hts⟩ (cX1_isPoint_ok l dC dI h b1 b2 b3 b4 b5 b6 cI cL cZ 0 cnt fp sp mo on rs rw rl le bl bs H.size x) (va_cwS 1 hts gX1_add_X1_isPoint rfl rfl rfl (by decide +kernel) ⟨Nat.le_of_ble_eq_true rfl, Nat.le_of_ble_eq_true rfl⟩) (tn_preS hK hP hD) rfl rfl hl.1 rfl (lv_room (Nat.le_of_ble_eq_true rfl)) dX1_add_6 ⟨Nat.le_of_ble_eq_true rfl, Nat.le_of_ble_eq_true rfl⟩) hS (fun q _ h => hF q h) hF (fun r_6 u_6 t H1 locs ht hvm hw_6 hB hz1 hk1 hS => ?_)
  obtain ⟨hP1, -, hD1⟩ := hB
  rw [ht] at hP1
  have hD := hD1.weaken (fun _ q _ hq => hF q.1 hq)
  clear hP hk1 hF hz1 ht hvm hD1
  generalize H1 = H at hP1 hS ⊢
  have hP := hP1
  clear hP1
  refine lv_if_eq (tgt := 49) hx hb dX1_add_9 (by decide) (fun c_9 => ?_) (fun c_9 => ?_)
  · skip
    have hn_6 : ∀ j, j < 20 → x ≠ nI j := by
      rcases hw_6 with ⟨q, _⟩ | ⟨_, q⟩
      · exact absurd (q ▸ c_9 : nI 1 = 0) (by decide)
      · exact q
    refine lv_iconst (v := (-1)) hx hb dX1_add_49 (by decide) ?_
    exact W.iret (v := (-1)) hx hb hr (fun t ht hW => ⟨⟨(-1), ((le, bl, bs), cnt, fp, sp, mo, on, rw, rs, rl), rfl, Or.inr ⟨fun _ a b h1 h2 h3 h4 h5 h6 h7 => absurd h4 (hn_6 a h1), rfl, rfl, rfl, rfl, rfl, rfl, rfl, rfl, rfl⟩, by rw [ht]; exact hP, va_K.moved hW.alike hK, hD⟩, hS.F ht⟩) hS.2.2 dX1_add_50
  · skip
    obtain ⟨a, ha, ea⟩ : ∃ j, j < 20 ∧ x = nI j := by
      rcases hw_6 with ⟨_, q⟩ | ⟨q, _⟩
      · exact q
      · exact absurd (q : r_6 = 0) c_9
    subst ea
    refine lv_iload_n hx hb dX1_add_12 rfl (lv_at hl 2 rfl) ?_
    have hF := tn_freeA hD hS hA
    refine va_calli (va_runS (As := [.int y]) (rest := []) ⟨hx, hb, hml, hown, hts⟩ (cX1_isPoint_ok l dC dI h b1 b2 b3 b4 b5 b6 cI cL cZ 0 cnt fp sp mo on rs rw rl le bl bs H.size y) (va_cwS 1 hts gX1_add_X1_isPoint rfl rfl rfl (by decide +kernel) ⟨Nat.le_of_ble_eq_true rfl, Nat.le_of_ble_eq_true rfl⟩) (tn_preS hK hP hD) rfl rfl hl.1 rfl (lv_room (Nat.le_of_ble_eq_true rfl)) dX1_add_13 ⟨Nat.le_of_ble_eq_true rfl, Nat.le_of_ble_eq_true rfl⟩) hS (fun q _ h => hF q h) hF (fun r_13 u_13 t H1 locs ht hvm hw_13 hB hz1 hk1 hS => ?_)
    obtain ⟨hP1, -, hD1⟩ := hB
    rw [ht] at hP1
    have hD := hD1.weaken (fun _ q _ hq => hF q.1 hq)
    clear hP hk1 hF hz1 ht hvm hD1
    generalize H1 = H at hP1 hS ⊢
    have hP := hP1
    clear hP1
    refine lv_if_eq (tgt := 49) hx hb dX1_add_16 (by decide) (fun c_16 => ?_) (fun c_16 => ?_)
    · skip
      have hn_13 : ∀ j, j < 20 → y ≠ nI j := by
        rcases hw_13 with ⟨q, _⟩ | ⟨_, q⟩
        · exact absurd (q ▸ c_16 : nI 1 = 0) (by decide)
        · exact q
      refine lv_iconst (v := (-1)) hx hb dX1_add_49 (by decide) ?_
      exact W.iret (v := (-1)) hx hb hr (fun t ht hW => ⟨⟨(-1), ((le, bl, bs), cnt, fp, sp, mo, on, rw, rs, rl), rfl, Or.inr ⟨fun _ a2 b h1 h2 h3 h4 h5 h6 h7 => absurd h5 (hn_13 b h2), rfl, rfl, rfl, rfl, rfl, rfl, rfl, rfl, rfl⟩, by rw [ht]; exact hP, va_K.moved hW.alike hK, hD⟩, hS.F ht⟩) hS.2.2 dX1_add_50
    · skip
      obtain ⟨b, hb2, eb⟩ : ∃ j, j < 20 ∧ y = nI j := by
        rcases hw_13 with ⟨_, q⟩ | ⟨q, _⟩
        · exact q
        · exact absurd (q : r_13 = 0) c_16
      subst eb
      refine lv_iload_n hx hb dX1_add_19 rfl (lv_at hl 1 rfl) ?_
      refine lv_iload_n hx hb dX1_add_20 rfl (lv_at hl 2 rfl) ?_
      refine lv_icmp_eq (tgt := 49) hx hb dX1_add_21 (by decide) (fun c_21 => ?_) (fun c_21 => ?_)
      · skip
        refine lv_iconst (v := (-1)) hx hb dX1_add_49 (by decide) ?_
        exact W.iret (v := (-1)) hx hb hr (fun t ht hW => ⟨⟨(-1), ((le, bl, bs), cnt, fp, sp, mo, on, rw, rs, rl), rfl, Or.inr ⟨fun _ a2 b2 h1 h2 h3 h4 h5 h6 h7 => h3 ((nI_eq (by omega) (by omega)).mp (h4.symm.trans (c_21.trans h5))), rfl, rfl, rfl, rfl, rfl, rfl, rfl, rfl, rfl⟩, by rw [ht]; exact hP, va_K.moved hW.alike hK, hD⟩, hS.F ht⟩) hS.2.2 dX1_add_50
      · skip
        have hab : a ≠ b := fun q => c_21 (by rw [q])
        refine lv_lload_n hx hb dX1_add_24 rfl (lv_at hl 3 rfl) ?_
        refine lv_ldc2 (v := (-1000000000000)) hx hb hown kc68 dX1_add_25 ?_
        refine tn_lc_lt (x := cv) (y := (-1000000000000)) (tgt := 49) hx hb dX1_add_28 dX1_add_29 (by decide) (fun c_28 => ?_) (fun c_28 => ?_)
        · skip
          refine lv_iconst (v := (-1)) hx hb dX1_add_49 (by decide) ?_
          exact W.iret (v := (-1)) hx hb hr (fun t ht hW => ⟨⟨(-1), ((le, bl, bs), cnt, fp, sp, mo, on, rw, rs, rl), rfl, Or.inr ⟨fun _ a2 b2 h1 h2 h3 h4 h5 h6 h7 => tn_lim_lo c_28 h6, rfl, rfl, rfl, rfl, rfl, rfl, rfl, rfl, rfl⟩, by rw [ht]; exact hP, va_K.moved hW.alike hK, hD⟩, hS.F ht⟩) hS.2.2 dX1_add_50
        · skip
          refine lv_lload_n hx hb dX1_add_32 rfl (lv_at hl 3 rfl) ?_
          refine lv_ldc2 (v := 1000000000000) hx hb hown kc70 dX1_add_33 ?_
          refine tn_lc_gt (x := cv) (y := 1000000000000) (tgt := 49) hx hb dX1_add_36 dX1_add_37 (by decide) (fun c_36 => ?_) (fun c_36 => ?_)
          · skip
            refine lv_iconst (v := (-1)) hx hb dX1_add_49 (by decide) ?_
            exact W.iret (v := (-1)) hx hb hr (fun t ht hW => ⟨⟨(-1), ((le, bl, bs), cnt, fp, sp, mo, on, rw, rs, rl), rfl, Or.inr ⟨fun _ a2 b2 h1 h2 h3 h4 h5 h6 h7 => tn_lim_hi c_36 h7, rfl, rfl, rfl, rfl, rfl, rfl, rfl, rfl, rfl⟩, by rw [ht]; exact hP, va_K.moved hW.alike hK, hD⟩, hS.F ht⟩) hS.2.2 dX1_add_50
          · skip
            obtain ⟨hc1, hc2⟩ := tn_lim c_28 c_36
            refine lv_aload_n hx hb dX1_add_40 rfl (lv_at hl 0 rfl) ?_
            refine va_get (D := (dC, dI)) (ci := 1) (v := .int (nI cnt)) (C := RX1) (T := TX1) (N := 12) hx hb hts hin hown hK hP 0 rfl rfl 1 (by decide) kf34 (fun _ h9 => h9) rfl dX1_add_41 ?_
            refine lv_bipush (v := nI 120) hx hb dX1_add_44 (by decide) ?_
            refine lv_icmp_ne (tgt := 51) hx hb dX1_add_46 (by decide) (fun c_46 => ?_) (fun c_46 => ?_)
            · skip
              have hfull : cnt < 120 := by
                have : cnt ≠ 120 := fun q => c_46 (by rw [q])
                omega
              refine lv_aload_n hx hb dX1_add_51 rfl (lv_at hl 0 rfl) ?_
              refine lv_iload_n hx hb dX1_add_52 rfl (lv_at hl 1 rfl) ?_
              refine lv_iload_n hx hb dX1_add_53 rfl (lv_at hl 2 rfl) ?_
              refine lv_lload_n hx hb dX1_add_54 rfl (lv_at hl 3 rfl) ?_
              have hF := tn_freeA hD hS hA
              refine va_calli (va_runV (As := [.int (nI a), .int (nI b), .long cv]) (rest := []) ⟨hx, hb, hml, hown, hts⟩ (cX1_isBad_ok l dC dI h b1 b2 b3 b4 b5 b6 cI cL cZ 0 cnt fp sp mo on rs rw rl le bl bs H.size g ok a ha b hb2 cv hc1 hc2) (cwV 3 hts gX1_add_X1_isBad rfl rfl rfl (by decide +kernel) ⟨Nat.le_of_ble_eq_true rfl, Nat.le_of_ble_eq_true rfl⟩) (tn_preV hK hP hD (ci := 1) rfl 0 rfl) rfl rfl hl.1 rfl (lv_room (Nat.le_of_ble_eq_true rfl)) dX1_add_55 ⟨Nat.le_of_ble_eq_true rfl, Nat.le_of_ble_eq_true rfl⟩) hS (fun q _ h => hF q h) hF (fun r_55 u_55 t H1 locs ht hvm hw_55 hB hz1 hk1 hS => ?_)
              obtain ⟨hP1, -, hD1⟩ := hB
              rw [ht] at hP1
              have hD := hD1.weaken (fun _ q _ hq => hF q.1 hq)
              clear hP hk1 hF hz1 ht hvm hD1
              generalize H1 = H at hP1 hS ⊢
              have hP := hP1
              clear hP1
              refine lv_if_eq (tgt := 64) hx hb dX1_add_58 (by decide) (fun c_58 => ?_) (fun c_58 => ?_)
              · skip
                have hr0 : r_55 = nI 0 := c_58
                refine lv_aload_n hx hb dX1_add_64 rfl (lv_at hl 0 rfl) ?_
                refine va_get (D := (dC, dI)) (ci := 1) (v := .ref b1) (C := RX1) (T := TX1) (N := 12) hx hb hts hin hown hK hP 0 rfl rfl 2 (by decide) kf7 (fun _ h9 => h9) rfl dX1_add_65 ?_
                refine lv_aload_n hx hb dX1_add_68 rfl (lv_at hl 0 rfl) ?_
                refine va_get (D := (dC, dI)) (ci := 1) (v := .int (nI cnt)) (C := RX1) (T := TX1) (N := 12) hx hb hts hin hown hK hP 0 rfl rfl 1 (by decide) kf34 (fun _ h9 => h9) rfl dX1_add_69 ?_
                refine lv_iload_n hx hb dX1_add_72 rfl (lv_at hl 1 rfl) ?_
                refine tn_iast (i := cnt) (f' := (fun zz => nI (va_up fp cnt a zz))) hx hb hK hP hD hS 1 0 rfl rfl (by omega) (by decide) (tn_updN fp cnt a) dX1_add_73 (fun H locs hP hD hS => ?_)
                have hP : va_P (dC, dI) vwCl (tm_ws h b1 b2 b3 b4 b5 b6 cI cL cZ 0 cnt (va_up fp cnt a) sp mo on u_55.2.2.1 u_55.2.1 u_55.2.2.2 u_55.1.1 u_55.1.2.1 u_55.1.2.2) H := hP
                have hD : va_D A (tm_ws h b1 b2 b3 b4 b5 b6 cI cL cZ 0 cnt (va_up fp cnt a) sp mo on u_55.2.2.1 u_55.2.1 u_55.2.2.2 u_55.1.1 u_55.1.2.1 u_55.1.2.2) := hD
                refine lv_aload_n hx hb dX1_add_74 rfl (lv_at hl 0 rfl) ?_
                refine va_get (D := (dC, dI)) (ci := 1) (v := .ref b2) (C := RX1) (T := TX1) (N := 12) hx hb hts hin hown hK hP 0 rfl rfl 3 (by decide) kf13 (fun _ h9 => h9) rfl dX1_add_75 ?_
                refine lv_aload_n hx hb dX1_add_78 rfl (lv_at hl 0 rfl) ?_
                refine va_get (D := (dC, dI)) (ci := 1) (v := .int (nI cnt)) (C := RX1) (T := TX1) (N := 12) hx hb hts hin hown hK hP 0 rfl rfl 1 (by decide) kf34 (fun _ h9 => h9) rfl dX1_add_79 ?_
                refine lv_iload_n hx hb dX1_add_82 rfl (lv_at hl 2 rfl) ?_
                refine tn_iast (i := cnt) (f' := (fun zz => nI (va_up sp cnt b zz))) hx hb hK hP hD hS 2 0 rfl rfl (by omega) (by decide) (tn_updN sp cnt b) dX1_add_83 (fun H locs hP hD hS => ?_)
                have hP : va_P (dC, dI) vwCl (tm_ws h b1 b2 b3 b4 b5 b6 cI cL cZ 0 cnt (va_up fp cnt a) (va_up sp cnt b) mo on u_55.2.2.1 u_55.2.1 u_55.2.2.2 u_55.1.1 u_55.1.2.1 u_55.1.2.2) H := hP
                have hD : va_D A (tm_ws h b1 b2 b3 b4 b5 b6 cI cL cZ 0 cnt (va_up fp cnt a) (va_up sp cnt b) mo on u_55.2.2.1 u_55.2.1 u_55.2.2.2 u_55.1.1 u_55.1.2.1 u_55.1.2.2) := hD
                refine lv_aload_n hx hb dX1_add_84 rfl (lv_at hl 0 rfl) ?_
                refine va_get (D := (dC, dI)) (ci := 1) (v := .ref b3) (C := RX1) (T := TX1) (N := 12) hx hb hts hin hown hK hP 0 rfl rfl 4 (by decide) kf16 (fun _ h9 => h9) rfl dX1_add_85 ?_
                refine lv_aload_n hx hb dX1_add_88 rfl (lv_at hl 0 rfl) ?_
                refine va_get (D := (dC, dI)) (ci := 1) (v := .int (nI cnt)) (C := RX1) (T := TX1) (N := 12) hx hb hts hin hown hK hP 0 rfl rfl 1 (by decide) kf34 (fun _ h9 => h9) rfl dX1_add_89 ?_
                refine lv_lload_n hx hb dX1_add_92 rfl (lv_at hl 3 rfl) ?_
                refine tn_last (i := cnt) (f' := (vp_updL mo cnt cv)) hx hb hK hP hD hS 3 1 rfl rfl (by omega) (by decide) rfl dX1_add_93 (fun H locs hP hD hS => ?_)
                have hP : va_P (dC, dI) vwCl (tm_ws h b1 b2 b3 b4 b5 b6 cI cL cZ 0 cnt (va_up fp cnt a) (va_up sp cnt b) (vp_updL mo cnt cv) on u_55.2.2.1 u_55.2.1 u_55.2.2.2 u_55.1.1 u_55.1.2.1 u_55.1.2.2) H := hP
                have hD : va_D A (tm_ws h b1 b2 b3 b4 b5 b6 cI cL cZ 0 cnt (va_up fp cnt a) (va_up sp cnt b) (vp_updL mo cnt cv) on u_55.2.2.1 u_55.2.1 u_55.2.2.2 u_55.1.1 u_55.1.2.1 u_55.1.2.2) := hD
                refine lv_aload_n hx hb dX1_add_94 rfl (lv_at hl 0 rfl) ?_
                refine va_get (D := (dC, dI)) (ci := 1) (v := .ref b4) (C := RX1) (T := TX1) (N := 12) hx hb hts hin hown hK hP 0 rfl rfl 5 (by decide) kf20 (fun _ h9 => h9) rfl dX1_add_95 ?_
                refine lv_aload_n hx hb dX1_add_98 rfl (lv_at hl 0 rfl) ?_
                refine va_get (D := (dC, dI)) (ci := 1) (v := .int (nI cnt)) (C := RX1) (T := TX1) (N := 12) hx hb hts hin hown hK hP 0 rfl rfl 1 (by decide) kf34 (fun _ h9 => h9) rfl dX1_add_99 ?_
                refine lv_iconst (v := nI 1) hx hb dX1_add_102 (by decide) ?_
                refine tn_zast (i := cnt) (f' := (fun zz => tn_b (va_up on cnt true zz))) hx hb hK hP hD hS 4 2 rfl rfl (by omega) (by decide) (tn_updB on cnt true) dX1_add_103 (fun H locs hP hD hS => ?_)
                have hP : va_P (dC, dI) vwCl (tm_ws h b1 b2 b3 b4 b5 b6 cI cL cZ 0 cnt (va_up fp cnt a) (va_up sp cnt b) (vp_updL mo cnt cv) (va_up on cnt true) u_55.2.2.1 u_55.2.1 u_55.2.2.2 u_55.1.1 u_55.1.2.1 u_55.1.2.2) H := hP
                have hD : va_D A (tm_ws h b1 b2 b3 b4 b5 b6 cI cL cZ 0 cnt (va_up fp cnt a) (va_up sp cnt b) (vp_updL mo cnt cv) (va_up on cnt true) u_55.2.2.1 u_55.2.1 u_55.2.2.2 u_55.1.1 u_55.1.2.1 u_55.1.2.2) := hD
                refine lv_aload_n hx hb dX1_add_104 rfl (lv_at hl 0 rfl) ?_
                refine lv_dup hx hb dX1_add_105 rfl ?_
                refine va_get (D := (dC, dI)) (ci := 1) (v := .int (nI cnt)) (C := RX1) (T := TX1) (N := 12) hx hb hts hin hown hK hP 0 rfl rfl 1 (by decide) kf34 (fun _ h9 => h9) rfl dX1_add_106 ?_
                refine lv_iconst (v := nI 1) hx hb dX1_add_109 (by decide) ?_
                refine tn_iadd (a := cnt) (b := 1) hx hb dX1_add_110 ?_
                refine va_put (D := (dC, dI)) (ci := 1) (v := .int (nI (cnt + 1))) (ty := .int) (C := RX1) (T := TX1) (N := 12) hx hb hts hin tyX1 tyX1_ok nmX1 hown hK hP hD hS 0 rfl rfl 1 (by decide) kf34 (fun _ h9 => h9) rfl (by decide +kernel) rfl rfl (Nat.le_of_ble_eq_true rfl) dX1_add_111 (fun H locs hP hD hS => ?_)
                have hP : va_P (dC, dI) vwCl (tm_ws h b1 b2 b3 b4 b5 b6 cI cL cZ 0 (cnt + 1) (va_up fp cnt a) (va_up sp cnt b) (vp_updL mo cnt cv) (va_up on cnt true) u_55.2.2.1 u_55.2.1 u_55.2.2.2 u_55.1.1 u_55.1.2.1 u_55.1.2.2) H := hP
                have hD : va_D A (tm_ws h b1 b2 b3 b4 b5 b6 cI cL cZ 0 (cnt + 1) (va_up fp cnt a) (va_up sp cnt b) (vp_updL mo cnt cv) (va_up on cnt true) u_55.2.2.1 u_55.2.1 u_55.2.2.2 u_55.1.1 u_55.1.2.1 u_55.1.2.2) := hD
                refine lv_aload_n hx hb dX1_add_114 rfl (lv_at hl 0 rfl) ?_
                refine va_get (D := (dC, dI)) (ci := 1) (v := .int (nI (cnt + 1))) (C := RX1) (T := TX1) (N := 12) hx hb hts hin hown hK hP 0 rfl rfl 1 (by decide) kf34 (fun _ h9 => h9) rfl dX1_add_115 ?_
                refine lv_iconst (v := nI 1) hx hb dX1_add_118 (by decide) ?_
                refine tn_isub2 (a := (cnt + 1)) (b := 1) (d := cnt) hx hb (by omega) dX1_add_119 ?_
                exact W.iret (v := nI cnt) hx hb hr (fun t ht hW => ⟨⟨nI cnt, ((u_55.1.1, u_55.1.2.1, u_55.1.2.2), (cnt + 1), va_up fp cnt a, va_up sp cnt b, vp_updL mo cnt cv, va_up on cnt true, u_55.2.1, u_55.2.2.1, u_55.2.2.2), rfl, Or.inl ⟨a, b, r_55, hfull, ha, hb2, hab, rfl, rfl, hc1, hc2, hw_55, Or.inr ⟨hr0, rfl, rfl, rfl, rfl, rfl, rfl⟩⟩, by rw [ht]; exact hP, va_K.moved hW.alike hK, hD⟩, hS.F ht⟩) hS.2.2 dX1_add_120
              · skip
                have hr1 : r_55 = nI 1 := by
                  rcases hw_55 with ⟨_, _, _, _, _, q, _⟩ | ⟨_, q, _⟩
                  · exact q
                  · exact absurd (q : r_55 = 0) c_58
                refine lv_bipush (v := (-2)) hx hb dX1_add_61 (by decide) ?_
                exact W.iret (v := (-2)) hx hb hr (fun t ht hW => ⟨⟨(-2), ((u_55.1.1, u_55.1.2.1, u_55.1.2.2), cnt, fp, sp, mo, on, u_55.2.1, u_55.2.2.1, u_55.2.2.2), rfl, Or.inl ⟨a, b, r_55, hfull, ha, hb2, hab, rfl, rfl, hc1, hc2, hw_55, Or.inl ⟨hr1, rfl, rfl, rfl, rfl, rfl, rfl⟩⟩, by rw [ht]; exact hP, va_K.moved hW.alike hK, hD⟩, hS.F ht⟩) hS.2.2 dX1_add_63
            · skip
              have hfull : cnt = 120 := (nI_eq (by omega) (by omega)).mp c_46
              refine lv_iconst (v := (-1)) hx hb dX1_add_49 (by decide) ?_
              exact W.iret (v := (-1)) hx hb hr (fun t ht hW => ⟨⟨(-1), ((le, bl, bs), cnt, fp, sp, mo, on, rw, rs, rl), rfl, Or.inr ⟨fun q => absurd q (by omega), rfl, rfl, rfl, rfl, rfl, rfl, rfl, rfl, rfl⟩, by rw [ht]; exact hP, va_K.moved hW.alike hK, hD⟩, hS.F ht⟩) hS.2.2 dX1_add_50
set_option maxHeartbeats 4000000 in
set_option maxRecDepth 100000 in
/-- off(x) -/
theorem cX1_off_ok (l : Launch) (dC : Nat → ClassId) (dI : Nat → Nat → Nat) (h b1 b2 b3 b4 b5 b6 : Nat) (cI cL cZ : ClassId) (th cnt : Nat) (fp sp : Nat → Nat) (mo : Nat → Int64) (on : Nat → Bool) (rs : Nat) (rw : Nat → Nat) (rl : Int64) (le : Nat → Int64) (bl : Int64) (bs : Int32) (sz : Nat) (hc : cnt ≤ 120) (x : Int32) : Met l yX1_off wsX1_off ({ frames := 1, cells := 0, slots := 0, locals := 21 }) (va_Pc [.ref h, .int x] (tn_Pre dC dI (tn_tys cI cL cZ) (tm_ws h b1 b2 b3 b4 b5 b6 cI cL cZ th cnt fp sp mo on rs rw rl le bl bs) sz)) (va_Qi (S := Nat → Bool) (fun r u => sp_off cnt on x r u) (fun u t => tn_at dC dI (tn_tys cI cL cZ) (va_A (tm_ws h b1 b2 b3 b4 b5 b6 cI cL cZ th cnt fp sp mo on rs rw rl le bl bs) sz) (tm_ws h b1 b2 b3 b4 b5 b6 cI cL cZ 0 cnt fp sp mo u rs rw rl le bl bs) t) (va_A (tm_ws h b1 b2 b3 b4 b5 b6 cI cL cZ th cnt fp sp mo on rs rw rl le bl bs) sz)) 0 0 (va_A (tm_ws h b1 b2 b3 b4 b5 b6 cI cL cZ th cnt fp sp mo on rs rw rl le bl bs) sz) := by
  refine Met.ofW (cc := cX1_off) (maxL := 2) (ret := (some .boolean)) (by decide) rfl ?_
  intro p e s m args below meth c s₁ B hml hv
  obtain ⟨rfl, hsz, hP, hK, hD0⟩ := hv
  have hx := B.exec
  have hb := B.bytes
  have hr := B.returns
  have hts := atoms_spec (ws := wsX1_off) B.pre
  have hown : s.vm.findClass RX1 = some m.cls := findClass_of_methodNamed B.named
  have hlocks := B.notSynchronized
  subst hsz
  have hD := hD0.self (sz := s.heap.size)
  generalize hAe : va_A (tm_ws h b1 b2 b3 b4 b5 b6 cI cL cZ th cnt fp sp mo on rs rw rl le bl bs) s.heap.size = A at hD ⊢
  have hA : ∀ q : Nat, s.heap.size ≤ q → A q := fun q h => by rw [← hAe]; exact Or.inr h
  have hS : va_S A s.heap s.heap [] := va_S.rf
  have hl := lv_entry ([.ref h, .int x]) (n := 2) (Nat.le_of_ble_eq_true rfl)
  rw [lg_entry_eq]
  generalize (lg_sl ([.ref h, .int x]) ++ List.replicate (2 - (lg_sl ([.ref h, .int x])).length) Slot.unset).toArray = ls at hl ⊢
  have hl : lv_has ls 2 [(0, .ref h), (1, .int x)] := hl
  have kf30 := hts (.fieldLink RX1 30 "TimeNetModel" "thrown" "I") (by decide +kernel)
  have kf20 := hts (.fieldLink RX1 20 "TimeNetModel" "isOn" "[Z") (by decide +kernel)
  have hin : ∀ w ∈ u_ws RX1 TX1 12, w ∈ wsX1_off := by decide +kernel
  refine lv_aload_n hx hb dX1_off_0 rfl (lv_at hl 0 rfl) ?_
  refine lv_iconst (v := nI 0) hx hb dX1_off_1 (by decide) ?_
  refine va_put (D := (dC, dI)) (ci := 1) (v := .int (nI 0)) (ty := .int) (C := RX1) (T := TX1) (N := 12) hx hb hts hin tyX1 tyX1_ok nmX1 hown hK hP hD hS 0 rfl rfl 0 (by decide) kf30 (fun _ h9 => h9) rfl (by decide +kernel) rfl rfl (Nat.le_of_ble_eq_true rfl) dX1_off_2 (fun H locs hP hD hS => ?_)
  have hP : va_P (dC, dI) vwCl (tm_ws h b1 b2 b3 b4 b5 b6 cI cL cZ 0 cnt fp sp mo on rs rw rl le bl bs) H := hP
  have hD : va_D A (tm_ws h b1 b2 b3 b4 b5 b6 cI cL cZ 0 cnt fp sp mo on rs rw rl le bl bs) := hD
  refine lv_aload_n hx hb dX1_off_5 rfl (lv_at hl 0 rfl) ?_
  refine lv_iload_n hx hb dX1_off_6 rfl (lv_at hl 1 rfl) ?_
  have hF := tn_freeA hD hS hA
  refine va_calli (va_runV (As := [.int x]) (rest := []) ⟨hx, hb, hml, hown, hts⟩ (cX1_isThere_ok l dC dI h b1 b2 b3 b4 b5 b6 cI cL cZ 0 cnt fp sp mo on rs rw rl le bl bs H.size hc x) (cwV 1 hts gX1_off_X1_isThere rfl rfl rfl (by decide +kernel) ⟨Nat.le_of_ble_eq_true rfl, Nat.le_of_ble_eq_true rfl⟩) (tn_preV hK hP hD (ci := 1) rfl 0 rfl) rfl rfl hl.1 rfl (lv_room (Nat.le_of_ble_eq_true rfl)) dX1_off_7 ⟨Nat.le_of_ble_eq_true rfl, Nat.le_of_ble_eq_true rfl⟩) hS (fun q _ h => hF q h) hF (fun r_7 u_7 t H1 locs ht hvm hw_7 hB hz1 hk1 hS => ?_)
  obtain ⟨hP1, -, hD1⟩ := hB
  rw [ht] at hP1
  have hD := hD1.weaken (fun _ q _ hq => hF q.1 hq)
  clear hP hk1 hF hz1 ht hvm hD1
  generalize H1 = H at hP1 hS ⊢
  have hP := hP1
  clear hP1
  refine lv_if_eq (tgt := 22) hx hb dX1_off_10 (by decide) (fun c_10 => ?_) (fun c_10 => ?_)
  · skip
    have hn_7 : ∀ j, j < cnt → x ≠ nI j := by
      rcases hw_7 with ⟨q, _⟩ | ⟨_, q⟩
      · exact absurd (q ▸ c_10 : nI 1 = 0) (by decide)
      · exact q
    refine lv_iconst (v := nI 0) hx hb dX1_off_22 (by decide) ?_
    exact W.zret (v := nI 0) hx hb hr rfl (fun t ht hW => ⟨⟨nI 0, on, rfl, Or.inr ⟨fun k hk e => absurd e (hn_7 k hk), rfl, rfl⟩, by rw [ht]; exact hP, va_K.moved hW.alike hK, hD⟩, hS.F ht⟩) hS.2.2 dX1_off_23
  · skip
    obtain ⟨k, hk, ex⟩ : ∃ j, j < cnt ∧ x = nI j := by
      rcases hw_7 with ⟨_, q⟩ | ⟨q, _⟩
      · exact q
      · exact absurd (q : r_7 = 0) c_10
    subst ex
    refine lv_aload_n hx hb dX1_off_13 rfl (lv_at hl 0 rfl) ?_
    refine va_get (D := (dC, dI)) (ci := 1) (v := .ref b4) (C := RX1) (T := TX1) (N := 12) hx hb hts hin hown hK hP 0 rfl rfl 5 (by decide) kf20 (fun _ h9 => h9) rfl dX1_off_14 ?_
    refine lv_iload_n hx hb dX1_off_17 rfl (lv_at hl 1 rfl) ?_
    refine tn_zald (i := k) (v := tn_b (on k)) hx hb hK hP 4 2 rfl rfl (by omega) (by decide) rfl dX1_off_18 ?_
    refine lv_if_ne (tgt := 24) hx hb dX1_off_19 (by decide) (fun c_19 => ?_) (fun c_19 => ?_)
    · skip
      have ho := tn_b_ne0 c_19
      refine lv_aload_n hx hb dX1_off_24 rfl (lv_at hl 0 rfl) ?_
      refine va_get (D := (dC, dI)) (ci := 1) (v := .ref b4) (C := RX1) (T := TX1) (N := 12) hx hb hts hin hown hK hP 0 rfl rfl 5 (by decide) kf20 (fun _ h9 => h9) rfl dX1_off_25 ?_
      refine lv_iload_n hx hb dX1_off_28 rfl (lv_at hl 1 rfl) ?_
      refine lv_iconst (v := nI 0) hx hb dX1_off_29 (by decide) ?_
      refine tn_zast (i := k) (f' := (fun zz => tn_b (va_up on k false zz))) hx hb hK hP hD hS 4 2 rfl rfl (by omega) (by decide) (tn_updB on k false) dX1_off_30 (fun H locs hP hD hS => ?_)
      have hP : va_P (dC, dI) vwCl (tm_ws h b1 b2 b3 b4 b5 b6 cI cL cZ 0 cnt fp sp mo (va_up on k false) rs rw rl le bl bs) H := hP
      have hD : va_D A (tm_ws h b1 b2 b3 b4 b5 b6 cI cL cZ 0 cnt fp sp mo (va_up on k false) rs rw rl le bl bs) := hD
      refine lv_iconst (v := nI 1) hx hb dX1_off_31 (by decide) ?_
      exact W.zret (v := nI 1) hx hb hr rfl (fun t ht hW => ⟨⟨nI 1, va_up on k false, rfl, Or.inl ⟨k, hk, rfl, ho, rfl, rfl⟩, by rw [ht]; exact hP, va_K.moved hW.alike hK, hD⟩, hS.F ht⟩) hS.2.2 dX1_off_32
    · skip
      have ho := tn_b_eq0 c_19
      refine lv_iconst (v := nI 0) hx hb dX1_off_22 (by decide) ?_
      exact W.zret (v := nI 0) hx hb hr rfl (fun t ht hW => ⟨⟨nI 0, on, rfl, Or.inr ⟨fun k2 hk2 e => by rw [(nI_eq (by omega) (by omega)).mp e] at ho; exact ho, rfl, rfl⟩, by rw [ht]; exact hP, va_K.moved hW.alike hK, hD⟩, hS.F ht⟩) hS.2.2 dX1_off_23
set_option maxHeartbeats 4000000 in
set_option maxRecDepth 100000 in
/-- on(x) -/
theorem cX1_on_ok (l : Launch) (dC : Nat → ClassId) (dI : Nat → Nat → Nat) (h b1 b2 b3 b4 b5 b6 : Nat) (cI cL cZ : ClassId) (th cnt : Nat) (fp sp : Nat → Nat) (mo : Nat → Int64) (on : Nat → Bool) (rs : Nat) (rw : Nat → Nat) (rl : Int64) (le : Nat → Int64) (bl : Int64) (bs : Int32) (sz : Nat) (g : tn_good cnt fp sp mo) (ok : tn_ok (tn_E cnt fp sp mo on)) (x : Int32) : Met l yX1_on wsX1_on ({ frames := 3, cells := 0, slots := 0, locals := 73 }) (va_Pc [.ref h, .int x] (tn_Pre dC dI (tn_tys cI cL cZ) (tm_ws h b1 b2 b3 b4 b5 b6 cI cL cZ th cnt fp sp mo on rs rw rl le bl bs) sz)) (va_Qi (S := ((Nat → Int64) × Int64 × Int32) × (Nat → Bool) × (Nat → Nat) × Nat × Int64) (fun r u => sp_on cnt fp sp mo on x r rw rs rl u.2.1 u.2.2.1 u.2.2.2.1 u.2.2.2.2) (fun u t => tn_at dC dI (tn_tys cI cL cZ) (va_A (tm_ws h b1 b2 b3 b4 b5 b6 cI cL cZ th cnt fp sp mo on rs rw rl le bl bs) sz) (tm_ws h b1 b2 b3 b4 b5 b6 cI cL cZ 0 cnt fp sp mo u.2.1 u.2.2.2.1 u.2.2.1 u.2.2.2.2 u.1.1 u.1.2.1 u.1.2.2) t) (va_A (tm_ws h b1 b2 b3 b4 b5 b6 cI cL cZ th cnt fp sp mo on rs rw rl le bl bs) sz)) 0 0 (va_A (tm_ws h b1 b2 b3 b4 b5 b6 cI cL cZ th cnt fp sp mo on rs rw rl le bl bs) sz) := by
  refine Met.ofW (cc := cX1_on) (maxL := 2) (ret := (some .int)) (by decide) rfl ?_
  intro p e s m args below meth c s₁ B hml hv
  obtain ⟨rfl, hsz, hP, hK, hD0⟩ := hv
  have hx := B.exec
  have hb := B.bytes
  have hr := B.returns
  have hts := atoms_spec (ws := wsX1_on) B.pre
  have hown : s.vm.findClass RX1 = some m.cls := findClass_of_methodNamed B.named
  have hlocks := B.notSynchronized
  subst hsz
  have hD := hD0.self (sz := s.heap.size)
  generalize hAe : va_A (tm_ws h b1 b2 b3 b4 b5 b6 cI cL cZ th cnt fp sp mo on rs rw rl le bl bs) s.heap.size = A at hD ⊢
  have hA : ∀ q : Nat, s.heap.size ≤ q → A q := fun q h => by rw [← hAe]; exact Or.inr h
  have hS : va_S A s.heap s.heap [] := va_S.rf
  have hl := lv_entry ([.ref h, .int x]) (n := 2) (Nat.le_of_ble_eq_true rfl)
  rw [lg_entry_eq]
  generalize (lg_sl ([.ref h, .int x]) ++ List.replicate (2 - (lg_sl ([.ref h, .int x])).length) Slot.unset).toArray = ls at hl ⊢
  have hl : lv_has ls 2 [(0, .ref h), (1, .int x)] := hl
  have kf30 := hts (.fieldLink RX1 30 "TimeNetModel" "thrown" "I") (by decide +kernel)
  have kf20 := hts (.fieldLink RX1 20 "TimeNetModel" "isOn" "[Z") (by decide +kernel)
  have kf7 := hts (.fieldLink RX1 7 "TimeNetModel" "first" "[I") (by decide +kernel)
  have kf13 := hts (.fieldLink RX1 13 "TimeNetModel" "second" "[I") (by decide +kernel)
  have kf16 := hts (.fieldLink RX1 16 "TimeNetModel" "c" "[J") (by decide +kernel)
  have hin : ∀ w ∈ u_ws RX1 TX1 12, w ∈ wsX1_on := by decide +kernel
  have hc := g.1
  refine lv_aload_n hx hb dX1_on_0 rfl (lv_at hl 0 rfl) ?_
  refine lv_iconst (v := nI 0) hx hb dX1_on_1 (by decide) ?_
  refine va_put (D := (dC, dI)) (ci := 1) (v := .int (nI 0)) (ty := .int) (C := RX1) (T := TX1) (N := 12) hx hb hts hin tyX1 tyX1_ok nmX1 hown hK hP hD hS 0 rfl rfl 0 (by decide) kf30 (fun _ h9 => h9) rfl (by decide +kernel) rfl rfl (Nat.le_of_ble_eq_true rfl) dX1_on_2 (fun H locs hP hD hS => ?_)
  have hP : va_P (dC, dI) vwCl (tm_ws h b1 b2 b3 b4 b5 b6 cI cL cZ 0 cnt fp sp mo on rs rw rl le bl bs) H := hP
  have hD : va_D A (tm_ws h b1 b2 b3 b4 b5 b6 cI cL cZ 0 cnt fp sp mo on rs rw rl le bl bs) := hD
  refine lv_aload_n hx hb dX1_on_5 rfl (lv_at hl 0 rfl) ?_
  refine lv_iload_n hx hb dX1_on_6 rfl (lv_at hl 1 rfl) ?_
  have hF := tn_freeA hD hS hA
  refine va_calli (va_runV (As := [.int x]) (rest := []) ⟨hx, hb, hml, hown, hts⟩ (cX1_isThere_ok l dC dI h b1 b2 b3 b4 b5 b6 cI cL cZ 0 cnt fp sp mo on rs rw rl le bl bs H.size hc x) (cwV 1 hts gX1_on_X1_isThere rfl rfl rfl (by decide +kernel) ⟨Nat.le_of_ble_eq_true rfl, Nat.le_of_ble_eq_true rfl⟩) (tn_preV hK hP hD (ci := 1) rfl 0 rfl) rfl rfl hl.1 rfl (lv_room (Nat.le_of_ble_eq_true rfl)) dX1_on_7 ⟨Nat.le_of_ble_eq_true rfl, Nat.le_of_ble_eq_true rfl⟩) hS (fun q _ h => hF q h) hF (fun r_7 u_7 t H1 locs ht hvm hw_7 hB hz1 hk1 hS => ?_)
  obtain ⟨hP1, -, hD1⟩ := hB
  rw [ht] at hP1
  have hD := hD1.weaken (fun _ q _ hq => hF q.1 hq)
  clear hP hk1 hF hz1 ht hvm hD1
  generalize H1 = H at hP1 hS ⊢
  have hP := hP1
  clear hP1
  refine lv_if_eq (tgt := 22) hx hb dX1_on_10 (by decide) (fun c_10 => ?_) (fun c_10 => ?_)
  · skip
    have hn_7 : ∀ j, j < cnt → x ≠ nI j := by
      rcases hw_7 with ⟨q, _⟩ | ⟨_, q⟩
      · exact absurd (q ▸ c_10 : nI 1 = 0) (by decide)
      · exact q
    refine lv_iconst (v := (-1)) hx hb dX1_on_22 (by decide) ?_
    exact W.iret (v := (-1)) hx hb hr (fun t ht hW => ⟨⟨(-1), ((le, bl, bs), on, rw, rs, rl), rfl, Or.inr ⟨fun k hk e => absurd e (hn_7 k hk), rfl, rfl, rfl, rfl, rfl⟩, by rw [ht]; exact hP, va_K.moved hW.alike hK, hD⟩, hS.F ht⟩) hS.2.2 dX1_on_23
  · skip
    obtain ⟨k, hk, ex⟩ : ∃ j, j < cnt ∧ x = nI j := by
      rcases hw_7 with ⟨_, q⟩ | ⟨q, _⟩
      · exact q
      · exact absurd (q : r_7 = 0) c_10
    subst ex
    refine lv_aload_n hx hb dX1_on_13 rfl (lv_at hl 0 rfl) ?_
    refine va_get (D := (dC, dI)) (ci := 1) (v := .ref b4) (C := RX1) (T := TX1) (N := 12) hx hb hts hin hown hK hP 0 rfl rfl 5 (by decide) kf20 (fun _ h9 => h9) rfl dX1_on_14 ?_
    refine lv_iload_n hx hb dX1_on_17 rfl (lv_at hl 1 rfl) ?_
    refine tn_zald (i := k) (v := tn_b (on k)) hx hb hK hP 4 2 rfl rfl (by omega) (by decide) rfl dX1_on_18 ?_
    refine lv_if_eq (tgt := 24) hx hb dX1_on_19 (by decide) (fun c_19 => ?_) (fun c_19 => ?_)
    · skip
      have ho := tn_b_eq0 c_19
      have hk0 := (g.2 k hk).1
      have hk1 := (g.2 k hk).2.1
      refine lv_aload_n hx hb dX1_on_24 rfl (lv_at hl 0 rfl) ?_
      refine lv_aload_n hx hb dX1_on_25 rfl (lv_at hl 0 rfl) ?_
      refine va_get (D := (dC, dI)) (ci := 1) (v := .ref b1) (C := RX1) (T := TX1) (N := 12) hx hb hts hin hown hK hP 0 rfl rfl 2 (by decide) kf7 (fun _ h9 => h9) rfl dX1_on_26 ?_
      refine lv_iload_n hx hb dX1_on_29 rfl (lv_at hl 1 rfl) ?_
      refine tn_iald (i := k) (v := nI (fp k)) hx hb hK hP 1 0 rfl rfl (by omega) (by decide) rfl dX1_on_30 ?_
      refine lv_aload_n hx hb dX1_on_31 rfl (lv_at hl 0 rfl) ?_
      refine va_get (D := (dC, dI)) (ci := 1) (v := .ref b2) (C := RX1) (T := TX1) (N := 12) hx hb hts hin hown hK hP 0 rfl rfl 3 (by decide) kf13 (fun _ h9 => h9) rfl dX1_on_32 ?_
      refine lv_iload_n hx hb dX1_on_35 rfl (lv_at hl 1 rfl) ?_
      refine tn_iald (i := k) (v := nI (sp k)) hx hb hK hP 2 0 rfl rfl (by omega) (by decide) rfl dX1_on_36 ?_
      refine lv_aload_n hx hb dX1_on_37 rfl (lv_at hl 0 rfl) ?_
      refine va_get (D := (dC, dI)) (ci := 1) (v := .ref b3) (C := RX1) (T := TX1) (N := 12) hx hb hts hin hown hK hP 0 rfl rfl 4 (by decide) kf16 (fun _ h9 => h9) rfl dX1_on_38 ?_
      refine lv_iload_n hx hb dX1_on_41 rfl (lv_at hl 1 rfl) ?_
      refine tn_lald (i := k) (v := mo k) hx hb hK hP 3 1 rfl rfl (by omega) (by decide) rfl dX1_on_42 ?_
      have hF := tn_freeA hD hS hA
      refine va_calli (va_runV (As := [.int (nI (fp k)), .int (nI (sp k)), .long (mo k)]) (rest := []) ⟨hx, hb, hml, hown, hts⟩ (cX1_isBad_ok l dC dI h b1 b2 b3 b4 b5 b6 cI cL cZ 0 cnt fp sp mo on rs rw rl le bl bs H.size g ok (fp k) hk0 (sp k) hk1 (mo k) (g.2 k hk).2.2.1 (g.2 k hk).2.2.2) (cwV 3 hts gX1_on_X1_isBad rfl rfl rfl (by decide +kernel) ⟨Nat.le_of_ble_eq_true rfl, Nat.le_of_ble_eq_true rfl⟩) (tn_preV hK hP hD (ci := 1) rfl 0 rfl) rfl rfl hl.1 rfl (lv_room (Nat.le_of_ble_eq_true rfl)) dX1_on_43 ⟨Nat.le_of_ble_eq_true rfl, Nat.le_of_ble_eq_true rfl⟩) hS (fun q _ h => hF q h) hF (fun r_43 u_43 t H1 locs ht hvm hw_43 hB hz1 hk1 hS => ?_)
      obtain ⟨hP1, -, hD1⟩ := hB
      rw [ht] at hP1
      have hD := hD1.weaken (fun _ q _ hq => hF q.1 hq)
      clear hP hk1 hF hz1 ht hvm hD1
      generalize H1 = H at hP1 hS ⊢
      have hP := hP1
      clear hP1
      refine lv_if_eq (tgt := 52) hx hb dX1_on_46 (by decide) (fun c_46 => ?_) (fun c_46 => ?_)
      · skip
        have hr0 : r_43 = nI 0 := c_46
        refine lv_aload_n hx hb dX1_on_52 rfl (lv_at hl 0 rfl) ?_
        refine va_get (D := (dC, dI)) (ci := 1) (v := .ref b4) (C := RX1) (T := TX1) (N := 12) hx hb hts hin hown hK hP 0 rfl rfl 5 (by decide) kf20 (fun _ h9 => h9) rfl dX1_on_53 ?_
        refine lv_iload_n hx hb dX1_on_56 rfl (lv_at hl 1 rfl) ?_
        refine lv_iconst (v := nI 1) hx hb dX1_on_57 (by decide) ?_
        refine tn_zast (i := k) (f' := (fun zz => tn_b (va_up on k true zz))) hx hb hK hP hD hS 4 2 rfl rfl (by omega) (by decide) (tn_updB on k true) dX1_on_58 (fun H locs hP hD hS => ?_)
        have hP : va_P (dC, dI) vwCl (tm_ws h b1 b2 b3 b4 b5 b6 cI cL cZ 0 cnt fp sp mo (va_up on k true) u_43.2.2.1 u_43.2.1 u_43.2.2.2 u_43.1.1 u_43.1.2.1 u_43.1.2.2) H := hP
        have hD : va_D A (tm_ws h b1 b2 b3 b4 b5 b6 cI cL cZ 0 cnt fp sp mo (va_up on k true) u_43.2.2.1 u_43.2.1 u_43.2.2.2 u_43.1.1 u_43.1.2.1 u_43.1.2.2) := hD
        refine lv_iload_n hx hb dX1_on_59 rfl (lv_at hl 1 rfl) ?_
        exact W.iret (v := nI k) hx hb hr (fun t ht hW => ⟨⟨nI k, ((u_43.1.1, u_43.1.2.1, u_43.1.2.2), va_up on k true, u_43.2.1, u_43.2.2.1, u_43.2.2.2), rfl, Or.inl ⟨k, r_43, hk, rfl, ho, hw_43, Or.inr ⟨hr0, rfl, rfl⟩⟩, by rw [ht]; exact hP, va_K.moved hW.alike hK, hD⟩, hS.F ht⟩) hS.2.2 dX1_on_60
      · skip
        have hr1 : r_43 = nI 1 := by
          rcases hw_43 with ⟨_, _, _, _, _, q, _⟩ | ⟨_, q, _⟩
          · exact q
          · exact absurd (q : r_43 = 0) c_46
        refine lv_bipush (v := (-2)) hx hb dX1_on_49 (by decide) ?_
        exact W.iret (v := (-2)) hx hb hr (fun t ht hW => ⟨⟨(-2), ((u_43.1.1, u_43.1.2.1, u_43.1.2.2), on, u_43.2.1, u_43.2.2.1, u_43.2.2.2), rfl, Or.inl ⟨k, r_43, hk, rfl, ho, hw_43, Or.inl ⟨hr1, rfl, rfl⟩⟩, by rw [ht]; exact hP, va_K.moved hW.alike hK, hD⟩, hS.F ht⟩) hS.2.2 dX1_on_51
    · skip
      have ho := tn_b_ne0 c_19
      refine lv_iconst (v := (-1)) hx hb dX1_on_22 (by decide) ?_
      exact W.iret (v := (-1)) hx hb hr (fun t ht hW => ⟨⟨(-1), ((le, bl, bs), on, rw, rs, rl), rfl, Or.inr ⟨fun k2 hk2 e => by rw [(nI_eq (by omega) (by omega)).mp e] at ho; exact ho, rfl, rfl, rfl, rfl, rfl⟩, by rw [ht]; exact hP, va_K.moved hW.alike hK, hD⟩, hS.F ht⟩) hS.2.2 dX1_on_23
end
section
theorem tm_noab {E : Nat → Nat → Int → Prop} {a b : Nat} (ha : a < 20) (hb : b < 20) (hno : ∀ n L, ¬ tn_wk E n a b L) : ∀ a2 b2, a2 < 20 → b2 < 20 → nI a = nI a2 → nI b = nI b2 → ∀ n L, ¬ tn_wk E n a2 b2 L := by
  intro a2 b2 h1 h2 h3 h4
  have e1 := (nI_eq (by omega) (by omega)).mp h3
  have e2 := (nI_eq (by omega) (by omega)).mp h4
  subst e1; subst e2
  exact hno
theorem tm_path_yes {E : Nat → Nat → Int → Prop} {a b n0 : Nat} (ha : a < 20) (hb : b < 20) (hn0 : n0 ≤ 19) {bl : Int64} (hbe : tn_best E a b bl.toInt n0) {rp : Nat → Nat} {rs : Nat} {rl : Int64} {f : Nat → Nat} {z : Nat} (hf : tn_bp E b n0 a f 0) (hz : z = 0 + 1 + n0) : sp_path E (nI a) (nI b) (nI z) rp rs rl f z bl :=
  Or.inl ⟨a, b, _, n0, ha, hb, rfl, rfl, hbe, hn0, by rw [hz, show 0 + 1 + n0 = n0 + 1 by omega], by omega, hf, rfl⟩
theorem tm_neg {E : Nat → Nat → Int → Prop} {a b n0 : Nat} (hE : ∀ i j c, E i j c → -1000000000000 ≤ c ∧ c ≤ 1000000000000) (hn0 : n0 ≤ 19) {bl : Int64} (hbe : tn_best E a b bl.toInt n0) : (-bl).toInt = -bl.toInt := by
  have bd := tn_wk_bd hE n0 hbe.1
  rw [Int64.toInt_neg]
  exact Int.bmod_eq_of_le (by omega) (by omega)
theorem tm_sub {E : Nat → Nat → Int → Prop} {a b n0 : Nat} (hE : ∀ i j c, E i j c → -1000000000000 ≤ c ∧ c ≤ 1000000000000) (hn0 : n0 ≤ 19) {bl x : Int64} (hbe : tn_best E a b bl.toInt n0) (h1 : -1000000000000 ≤ x.toInt) (h2 : x.toInt ≤ 1000000000000) : (x - bl).toInt = x.toInt - bl.toInt := by
  have bd := tn_wk_bd hE n0 hbe.1
  exact tn_subI (by omega) (by omega) (by omega) (by omega)
set_option maxHeartbeats 4000000 in
set_option maxRecDepth 100000 in
/-- steps(x, y) -/
theorem cX1_steps_ok (l : Launch) (dC : Nat → ClassId) (dI : Nat → Nat → Nat) (h b1 b2 b3 b4 b5 b6 : Nat) (cI cL cZ : ClassId) (th cnt : Nat) (fp sp : Nat → Nat) (mo : Nat → Int64) (on : Nat → Bool) (rs : Nat) (rw : Nat → Nat) (rl : Int64) (le : Nat → Int64) (bl : Int64) (bs : Int32) (sz : Nat) (g : tn_good cnt fp sp mo) (ok : tn_ok (tn_E cnt fp sp mo on)) (x y : Int32) : Met l yX1_steps wsX1_steps ({ frames := 1, cells := 0, slots := 0, locals := 26 }) (va_Pc [.ref h, .int x, .int y] (tn_Pre dC dI (tn_tys cI cL cZ) (tm_ws h b1 b2 b3 b4 b5 b6 cI cL cZ th cnt fp sp mo on rs rw rl le bl bs) sz)) (va_Qi (S := (Nat → Int64) × Int64 × Int32) (fun r _ => sp_steps (tn_E cnt fp sp mo on) x y r) (fun u t => tn_at dC dI (tn_tys cI cL cZ) (va_A (tm_ws h b1 b2 b3 b4 b5 b6 cI cL cZ th cnt fp sp mo on rs rw rl le bl bs) sz) (tm_ws h b1 b2 b3 b4 b5 b6 cI cL cZ 0 cnt fp sp mo on rs rw rl u.1 u.2.1 u.2.2) t) (va_A (tm_ws h b1 b2 b3 b4 b5 b6 cI cL cZ th cnt fp sp mo on rs rw rl le bl bs) sz)) 0 0 (va_A (tm_ws h b1 b2 b3 b4 b5 b6 cI cL cZ th cnt fp sp mo on rs rw rl le bl bs) sz) := by
  refine Met.ofW (cc := cX1_steps) (maxL := 3) (ret := (some .int)) (by decide) rfl ?_
  intro p e s m args below meth c s₁ B hml hv
  obtain ⟨rfl, hsz, hP, hK, hD0⟩ := hv
  have hx := B.exec
  have hb := B.bytes
  have hr := B.returns
  have hts := atoms_spec (ws := wsX1_steps) B.pre
  have hown : s.vm.findClass RX1 = some m.cls := findClass_of_methodNamed B.named
  have hlocks := B.notSynchronized
  subst hsz
  have hD := hD0.self (sz := s.heap.size)
  generalize hAe : va_A (tm_ws h b1 b2 b3 b4 b5 b6 cI cL cZ th cnt fp sp mo on rs rw rl le bl bs) s.heap.size = A at hD ⊢
  have hA : ∀ q : Nat, s.heap.size ≤ q → A q := fun q h => by rw [← hAe]; exact Or.inr h
  have hS : va_S A s.heap s.heap [] := va_S.rf
  have hl := lv_entry ([.ref h, .int x, .int y]) (n := 3) (Nat.le_of_ble_eq_true rfl)
  rw [lg_entry_eq]
  generalize (lg_sl ([.ref h, .int x, .int y]) ++ List.replicate (3 - (lg_sl ([.ref h, .int x, .int y])).length) Slot.unset).toArray = ls at hl ⊢
  have hl : lv_has ls 3 [(0, .ref h), (1, .int x), (2, .int y)] := hl
  have kf30 := hts (.fieldLink RX1 30 "TimeNetModel" "thrown" "I") (by decide +kernel)
  have kf39 := hts (.fieldLink RX1 39 "TimeNetModel" "bestSteps" "I") (by decide +kernel)
  have hin : ∀ w ∈ u_ws RX1 TX1 12, w ∈ wsX1_steps := by decide +kernel
  have hc := g.1
  refine lv_aload_n hx hb dX1_steps_0 rfl (lv_at hl 0 rfl) ?_
  refine lv_iconst (v := nI 0) hx hb dX1_steps_1 (by decide) ?_
  refine va_put (D := (dC, dI)) (ci := 1) (v := .int (nI 0)) (ty := .int) (C := RX1) (T := TX1) (N := 12) hx hb hts hin tyX1 tyX1_ok nmX1 hown hK hP hD hS 0 rfl rfl 0 (by decide) kf30 (fun _ h9 => h9) rfl (by decide +kernel) rfl rfl (Nat.le_of_ble_eq_true rfl) dX1_steps_2 (fun H locs hP hD hS => ?_)
  have hP : va_P (dC, dI) vwCl (tm_ws h b1 b2 b3 b4 b5 b6 cI cL cZ 0 cnt fp sp mo on rs rw rl le bl bs) H := hP
  have hD : va_D A (tm_ws h b1 b2 b3 b4 b5 b6 cI cL cZ 0 cnt fp sp mo on rs rw rl le bl bs) := hD
  refine lv_iload_n hx hb dX1_steps_5 rfl (lv_at hl 1 rfl) ?_
  have hF := tn_freeA hD hS hA
  refine va_calli (va_runS (As := [.int x]) (rest := []) ⟨hx, hb, hml, hown, hts⟩ (cX1_isPoint_ok l dC dI h b1 b2 b3 b4 b5 b6 cI cL cZ 0 cnt fp sp mo on rs rw rl le bl bs H.size x) (va_cwS 1 hts gX1_steps_X1_isPoint rfl rfl rfl (by decide +kernel) ⟨Nat.le_of_ble_eq_true rfl, Nat.le_of_ble_eq_true rfl⟩) (tn_preS hK hP hD) rfl rfl hl.1 rfl (lv_room (Nat.le_of_ble_eq_true rfl)) dX1_steps_6 ⟨Nat.le_of_ble_eq_true rfl, Nat.le_of_ble_eq_true rfl⟩) hS (fun q _ h => hF q h) hF (fun r_6 u_6 t H1 locs ht hvm hw_6 hB hz1 hk1 hS => ?_)
  obtain ⟨hP1, -, hD1⟩ := hB
  rw [ht] at hP1
  have hD := hD1.weaken (fun _ q _ hq => hF q.1 hq)
  clear hP hk1 hF hz1 ht hvm hD1
  generalize H1 = H at hP1 hS ⊢
  have hP := hP1
  clear hP1
  refine lv_if_eq (tgt := 35) hx hb dX1_steps_9 (by decide) (fun c_9 => ?_) (fun c_9 => ?_)
  · skip
    have hn_6 : ∀ j, j < 20 → x ≠ nI j := by
      rcases hw_6 with ⟨q, _⟩ | ⟨_, q⟩
      · exact absurd (q ▸ c_9 : nI 1 = 0) (by decide)
      · exact q
    refine lv_iconst (v := (-1)) hx hb dX1_steps_35 (by decide) ?_
    exact W.iret (v := (-1)) hx hb hr (fun t ht hW => ⟨⟨(-1), (le, bl, bs), rfl, Or.inr ⟨(fun a b h1 h2 h3 h4 => absurd h3 (hn_6 a h1)), rfl⟩, by rw [ht]; exact hP, va_K.moved hW.alike hK, hD⟩, hS.F ht⟩) hS.2.2 dX1_steps_36
  · skip
    obtain ⟨a, ha, ea⟩ : ∃ j, j < 20 ∧ x = nI j := by
      rcases hw_6 with ⟨_, q⟩ | ⟨q, _⟩
      · exact q
      · exact absurd (q : r_6 = 0) c_9
    subst ea
    refine lv_iload_n hx hb dX1_steps_12 rfl (lv_at hl 2 rfl) ?_
    have hF := tn_freeA hD hS hA
    refine va_calli (va_runS (As := [.int y]) (rest := []) ⟨hx, hb, hml, hown, hts⟩ (cX1_isPoint_ok l dC dI h b1 b2 b3 b4 b5 b6 cI cL cZ 0 cnt fp sp mo on rs rw rl le bl bs H.size y) (va_cwS 1 hts gX1_steps_X1_isPoint rfl rfl rfl (by decide +kernel) ⟨Nat.le_of_ble_eq_true rfl, Nat.le_of_ble_eq_true rfl⟩) (tn_preS hK hP hD) rfl rfl hl.1 rfl (lv_room (Nat.le_of_ble_eq_true rfl)) dX1_steps_13 ⟨Nat.le_of_ble_eq_true rfl, Nat.le_of_ble_eq_true rfl⟩) hS (fun q _ h => hF q h) hF (fun r_13 u_13 t H1 locs ht hvm hw_13 hB hz1 hk1 hS => ?_)
    obtain ⟨hP1, -, hD1⟩ := hB
    rw [ht] at hP1
    have hD := hD1.weaken (fun _ q _ hq => hF q.1 hq)
    clear hP hk1 hF hz1 ht hvm hD1
    generalize H1 = H at hP1 hS ⊢
    have hP := hP1
    clear hP1
    refine lv_if_eq (tgt := 35) hx hb dX1_steps_16 (by decide) (fun c_16 => ?_) (fun c_16 => ?_)
    · skip
      have hn_13 : ∀ j, j < 20 → y ≠ nI j := by
        rcases hw_13 with ⟨q, _⟩ | ⟨_, q⟩
        · exact absurd (q ▸ c_16 : nI 1 = 0) (by decide)
        · exact q
      refine lv_iconst (v := (-1)) hx hb dX1_steps_35 (by decide) ?_
      exact W.iret (v := (-1)) hx hb hr (fun t ht hW => ⟨⟨(-1), (le, bl, bs), rfl, Or.inr ⟨(fun a2 b h1 h2 h3 h4 => absurd h4 (hn_13 b h2)), rfl⟩, by rw [ht]; exact hP, va_K.moved hW.alike hK, hD⟩, hS.F ht⟩) hS.2.2 dX1_steps_36
    · skip
      obtain ⟨b, hb2, eb⟩ : ∃ j, j < 20 ∧ y = nI j := by
        rcases hw_13 with ⟨_, q⟩ | ⟨q, _⟩
        · exact q
        · exact absurd (q : r_13 = 0) c_16
      subst eb
      refine lv_aload_n hx hb dX1_steps_19 rfl (lv_at hl 0 rfl) ?_
      refine lv_iload_n hx hb dX1_steps_20 rfl (lv_at hl 1 rfl) ?_
      refine lv_iload_n hx hb dX1_steps_21 rfl (lv_at hl 2 rfl) ?_
      have hF := tn_freeA hD hS hA
      refine va_calli (va_runV (As := [.int (nI a), .int (nI b)]) (rest := []) ⟨hx, hb, hml, hown, hts⟩ (cX1_best_ok l dC dI h b1 b2 b3 b4 b5 b6 cI cL cZ 0 cnt fp sp mo on rs rw rl le bl bs H.size g ok a ha b hb2) (cwV 2 hts gX1_steps_X1_best rfl rfl rfl (by decide +kernel) ⟨Nat.le_of_ble_eq_true rfl, Nat.le_of_ble_eq_true rfl⟩) (tn_preV hK hP hD (ci := 1) rfl 0 rfl) rfl rfl hl.1 rfl (lv_room (Nat.le_of_ble_eq_true rfl)) dX1_steps_22 ⟨Nat.le_of_ble_eq_true rfl, Nat.le_of_ble_eq_true rfl⟩) hS (fun q _ h => hF q h) hF (fun r_22 u_22 t H1 locs ht hvm hw_22 hB hz1 hk1 hS => ?_)
      obtain ⟨hP1, -, hD1⟩ := hB
      rw [ht] at hP1
      have hD := hD1.weaken (fun _ q _ hq => hF q.1 hq)
      clear hP hk1 hF hz1 ht hvm hD1
      generalize H1 = H at hP1 hS ⊢
      have hP := hP1
      clear hP1
      refine lv_if_eq (tgt := 35) hx hb dX1_steps_25 (by decide) (fun c_25 => ?_) (fun c_25 => ?_)
      · skip
        have hz : r_22 = nI 0 := c_25
        have hno : ∀ n L, ¬ tn_wk (tn_E cnt fp sp mo on) n a b L := by
          rcases hw_22.2 with ⟨_, _, _, q⟩ | ⟨q, _⟩
          · exact q
          · exact absurd (q.symm.trans hz) (by decide)
        refine lv_iconst (v := (-1)) hx hb dX1_steps_35 (by decide) ?_
        exact W.iret (v := (-1)) hx hb hr (fun t ht hW => ⟨⟨(-1), (u_22.1, u_22.2.1, u_22.2.2), rfl, Or.inr ⟨tm_noab ha hb2 hno, rfl⟩, by rw [ht]; exact hP, va_K.moved hW.alike hK, hD⟩, hS.F ht⟩) hS.2.2 dX1_steps_36
      · skip
        have hz : r_22 = nI 1 := by
          rcases hw_22.2 with ⟨q, _⟩ | ⟨q, _⟩
          · exact absurd (q : r_22 = 0) c_25
          · exact q
        obtain ⟨n0, hn0, hbs, hbl, hbx, hbe⟩ : ∃ n, n ≤ 19 ∧ u_22.2.2 = nI n ∧ u_22.2.1 = u_22.1 (20 * n + a) ∧ u_22.2.1 ≠ tn_MX ∧ tn_best (tn_E cnt fp sp mo on) a b u_22.2.1.toInt n := by
          rcases hw_22.2 with ⟨q, _⟩ | ⟨_, q⟩
          · exact absurd (q : r_22 = 0) c_25
          · exact q
        refine lv_aload_n hx hb dX1_steps_28 rfl (lv_at hl 0 rfl) ?_
        refine va_get (D := (dC, dI)) (ci := 1) (v := .int u_22.2.2) (C := RX1) (T := TX1) (N := 12) hx hb hts hin hown hK hP 0 rfl rfl 11 (by decide) kf39 (fun _ h9 => h9) rfl dX1_steps_29 ?_
        refine lv_goto (tgt := 36) hx hb dX1_steps_32 (by decide) ?_
        exact W.iret (v := u_22.2.2) hx hb hr (fun t ht hW => ⟨⟨u_22.2.2, (u_22.1, u_22.2.1, u_22.2.2), rfl, Or.inl ⟨a, b, _, n0, ha, hb2, rfl, rfl, hbe, hbs⟩, by rw [ht]; exact hP, va_K.moved hW.alike hK, hD⟩, hS.F ht⟩) hS.2.2 dX1_steps_36
set_option maxHeartbeats 4000000 in
set_option maxRecDepth 100000 in
/-- path(x, y) -/
theorem cX1_path_ok (l : Launch) (dC : Nat → ClassId) (dI : Nat → Nat → Nat) (h b1 b2 b3 b4 b5 b6 : Nat) (cI cL cZ : ClassId) (th cnt : Nat) (fp sp : Nat → Nat) (mo : Nat → Int64) (on : Nat → Bool) (rs : Nat) (rw : Nat → Nat) (rl : Int64) (le : Nat → Int64) (bl : Int64) (bs : Int32) (sz : Nat) (g : tn_good cnt fp sp mo) (ok : tn_ok (tn_E cnt fp sp mo on)) (x y : Int32) : Met l yX1_path wsX1_path ({ frames := 2, cells := 0, slots := 0, locals := 49 }) (va_Pc [.ref h, .int x, .int y] (tn_Pre dC dI (tn_tys cI cL cZ) (tm_ws h b1 b2 b3 b4 b5 b6 cI cL cZ th cnt fp sp mo on rs rw rl le bl bs) sz)) (va_Qi (S := ((Nat → Int64) × Int64 × Int32) × (Nat → Nat) × Nat × Int64) (fun r u => sp_path (tn_E cnt fp sp mo on) x y r rw rs rl u.2.1 u.2.2.1 u.2.2.2) (fun u t => tn_at dC dI (tn_tys cI cL cZ) (va_A (tm_ws h b1 b2 b3 b4 b5 b6 cI cL cZ th cnt fp sp mo on rs rw rl le bl bs) sz) (tm_ws h b1 b2 b3 b4 b5 b6 cI cL cZ 0 cnt fp sp mo on u.2.2.1 u.2.1 u.2.2.2 u.1.1 u.1.2.1 u.1.2.2) t) (va_A (tm_ws h b1 b2 b3 b4 b5 b6 cI cL cZ th cnt fp sp mo on rs rw rl le bl bs) sz)) 0 0 (va_A (tm_ws h b1 b2 b3 b4 b5 b6 cI cL cZ th cnt fp sp mo on rs rw rl le bl bs) sz) := by
  refine Met.ofW (cc := cX1_path) (maxL := 3) (ret := (some .int)) (by decide) rfl ?_
  intro p e s m args below meth c s₁ B hml hv
  obtain ⟨rfl, hsz, hP, hK, hD0⟩ := hv
  have hx := B.exec
  have hb := B.bytes
  have hr := B.returns
  have hts := atoms_spec (ws := wsX1_path) B.pre
  have hown : s.vm.findClass RX1 = some m.cls := findClass_of_methodNamed B.named
  have hlocks := B.notSynchronized
  subst hsz
  have hD := hD0.self (sz := s.heap.size)
  generalize hAe : va_A (tm_ws h b1 b2 b3 b4 b5 b6 cI cL cZ th cnt fp sp mo on rs rw rl le bl bs) s.heap.size = A at hD ⊢
  have hA : ∀ q : Nat, s.heap.size ≤ q → A q := fun q h => by rw [← hAe]; exact Or.inr h
  have hS : va_S A s.heap s.heap [] := va_S.rf
  have hl := lv_entry ([.ref h, .int x, .int y]) (n := 3) (Nat.le_of_ble_eq_true rfl)
  rw [lg_entry_eq]
  generalize (lg_sl ([.ref h, .int x, .int y]) ++ List.replicate (3 - (lg_sl ([.ref h, .int x, .int y])).length) Slot.unset).toArray = ls at hl ⊢
  have hl : lv_has ls 3 [(0, .ref h), (1, .int x), (2, .int y)] := hl
  have kf30 := hts (.fieldLink RX1 30 "TimeNetModel" "thrown" "I") (by decide +kernel)
  have kf24 := hts (.fieldLink RX1 24 "TimeNetModel" "row" "[I") (by decide +kernel)
  have kf50 := hts (.fieldLink RX1 50 "TimeNetModel" "rowSize" "I") (by decide +kernel)
  have kf42 := hts (.fieldLink RX1 42 "TimeNetModel" "bestLength" "J") (by decide +kernel)
  have kf61 := hts (.fieldLink RX1 61 "TimeNetModel" "rowLength" "J") (by decide +kernel)
  have hin : ∀ w ∈ u_ws RX1 TX1 12, w ∈ wsX1_path := by decide +kernel
  have hc := g.1
  refine lv_aload_n hx hb dX1_path_0 rfl (lv_at hl 0 rfl) ?_
  refine lv_iconst (v := nI 0) hx hb dX1_path_1 (by decide) ?_
  refine va_put (D := (dC, dI)) (ci := 1) (v := .int (nI 0)) (ty := .int) (C := RX1) (T := TX1) (N := 12) hx hb hts hin tyX1 tyX1_ok nmX1 hown hK hP hD hS 0 rfl rfl 0 (by decide) kf30 (fun _ h9 => h9) rfl (by decide +kernel) rfl rfl (Nat.le_of_ble_eq_true rfl) dX1_path_2 (fun H locs hP hD hS => ?_)
  have hP : va_P (dC, dI) vwCl (tm_ws h b1 b2 b3 b4 b5 b6 cI cL cZ 0 cnt fp sp mo on rs rw rl le bl bs) H := hP
  have hD : va_D A (tm_ws h b1 b2 b3 b4 b5 b6 cI cL cZ 0 cnt fp sp mo on rs rw rl le bl bs) := hD
  refine lv_iload_n hx hb dX1_path_5 rfl (lv_at hl 1 rfl) ?_
  have hF := tn_freeA hD hS hA
  refine va_calli (va_runS (As := [.int x]) (rest := []) ⟨hx, hb, hml, hown, hts⟩ (cX1_isPoint_ok l dC dI h b1 b2 b3 b4 b5 b6 cI cL cZ 0 cnt fp sp mo on rs rw rl le bl bs H.size x) (va_cwS 1 hts gX1_path_X1_isPoint rfl rfl rfl (by decide +kernel) ⟨Nat.le_of_ble_eq_true rfl, Nat.le_of_ble_eq_true rfl⟩) (tn_preS hK hP hD) rfl rfl hl.1 rfl (lv_room (Nat.le_of_ble_eq_true rfl)) dX1_path_6 ⟨Nat.le_of_ble_eq_true rfl, Nat.le_of_ble_eq_true rfl⟩) hS (fun q _ h => hF q h) hF (fun r_6 u_6 t H1 locs ht hvm hw_6 hB hz1 hk1 hS => ?_)
  obtain ⟨hP1, -, hD1⟩ := hB
  rw [ht] at hP1
  have hD := hD1.weaken (fun _ q _ hq => hF q.1 hq)
  clear hP hk1 hF hz1 ht hvm hD1
  generalize H1 = H at hP1 hS ⊢
  have hP := hP1
  clear hP1
  refine lv_if_eq (tgt := 28) hx hb dX1_path_9 (by decide) (fun c_9 => ?_) (fun c_9 => ?_)
  · skip
    have hn_6 : ∀ j, j < 20 → x ≠ nI j := by
      rcases hw_6 with ⟨q, _⟩ | ⟨_, q⟩
      · exact absurd (q ▸ c_9 : nI 1 = 0) (by decide)
      · exact q
    refine lv_iconst (v := (-1)) hx hb dX1_path_28 (by decide) ?_
    exact W.iret (v := (-1)) hx hb hr (fun t ht hW => ⟨⟨(-1), ((le, bl, bs), rw, rs, rl), rfl, Or.inr ⟨(fun a b h1 h2 h3 h4 => absurd h3 (hn_6 a h1)), rfl, rfl, rfl, rfl⟩, by rw [ht]; exact hP, va_K.moved hW.alike hK, hD⟩, hS.F ht⟩) hS.2.2 dX1_path_29
  · skip
    obtain ⟨a, ha, ea⟩ : ∃ j, j < 20 ∧ x = nI j := by
      rcases hw_6 with ⟨_, q⟩ | ⟨q, _⟩
      · exact q
      · exact absurd (q : r_6 = 0) c_9
    subst ea
    refine lv_iload_n hx hb dX1_path_12 rfl (lv_at hl 2 rfl) ?_
    have hF := tn_freeA hD hS hA
    refine va_calli (va_runS (As := [.int y]) (rest := []) ⟨hx, hb, hml, hown, hts⟩ (cX1_isPoint_ok l dC dI h b1 b2 b3 b4 b5 b6 cI cL cZ 0 cnt fp sp mo on rs rw rl le bl bs H.size y) (va_cwS 1 hts gX1_path_X1_isPoint rfl rfl rfl (by decide +kernel) ⟨Nat.le_of_ble_eq_true rfl, Nat.le_of_ble_eq_true rfl⟩) (tn_preS hK hP hD) rfl rfl hl.1 rfl (lv_room (Nat.le_of_ble_eq_true rfl)) dX1_path_13 ⟨Nat.le_of_ble_eq_true rfl, Nat.le_of_ble_eq_true rfl⟩) hS (fun q _ h => hF q h) hF (fun r_13 u_13 t H1 locs ht hvm hw_13 hB hz1 hk1 hS => ?_)
    obtain ⟨hP1, -, hD1⟩ := hB
    rw [ht] at hP1
    have hD := hD1.weaken (fun _ q _ hq => hF q.1 hq)
    clear hP hk1 hF hz1 ht hvm hD1
    generalize H1 = H at hP1 hS ⊢
    have hP := hP1
    clear hP1
    refine lv_if_eq (tgt := 28) hx hb dX1_path_16 (by decide) (fun c_16 => ?_) (fun c_16 => ?_)
    · skip
      have hn_13 : ∀ j, j < 20 → y ≠ nI j := by
        rcases hw_13 with ⟨q, _⟩ | ⟨_, q⟩
        · exact absurd (q ▸ c_16 : nI 1 = 0) (by decide)
        · exact q
      refine lv_iconst (v := (-1)) hx hb dX1_path_28 (by decide) ?_
      exact W.iret (v := (-1)) hx hb hr (fun t ht hW => ⟨⟨(-1), ((le, bl, bs), rw, rs, rl), rfl, Or.inr ⟨(fun a2 b h1 h2 h3 h4 => absurd h4 (hn_13 b h2)), rfl, rfl, rfl, rfl⟩, by rw [ht]; exact hP, va_K.moved hW.alike hK, hD⟩, hS.F ht⟩) hS.2.2 dX1_path_29
    · skip
      obtain ⟨b, hb2, eb⟩ : ∃ j, j < 20 ∧ y = nI j := by
        rcases hw_13 with ⟨_, q⟩ | ⟨q, _⟩
        · exact q
        · exact absurd (q : r_13 = 0) c_16
      subst eb
      refine lv_aload_n hx hb dX1_path_19 rfl (lv_at hl 0 rfl) ?_
      refine lv_iload_n hx hb dX1_path_20 rfl (lv_at hl 1 rfl) ?_
      refine lv_iload_n hx hb dX1_path_21 rfl (lv_at hl 2 rfl) ?_
      have hF := tn_freeA hD hS hA
      refine va_calli (va_runV (As := [.int (nI a), .int (nI b)]) (rest := []) ⟨hx, hb, hml, hown, hts⟩ (cX1_best_ok l dC dI h b1 b2 b3 b4 b5 b6 cI cL cZ 0 cnt fp sp mo on rs rw rl le bl bs H.size g ok a ha b hb2) (cwV 2 hts gX1_path_X1_best rfl rfl rfl (by decide +kernel) ⟨Nat.le_of_ble_eq_true rfl, Nat.le_of_ble_eq_true rfl⟩) (tn_preV hK hP hD (ci := 1) rfl 0 rfl) rfl rfl hl.1 rfl (lv_room (Nat.le_of_ble_eq_true rfl)) dX1_path_22 ⟨Nat.le_of_ble_eq_true rfl, Nat.le_of_ble_eq_true rfl⟩) hS (fun q _ h => hF q h) hF (fun r_22 u_22 t H1 locs ht hvm hw_22 hB hz1 hk1 hS => ?_)
      obtain ⟨hP1, -, hD1⟩ := hB
      rw [ht] at hP1
      have hD := hD1.weaken (fun _ q _ hq => hF q.1 hq)
      clear hP hk1 hF hz1 ht hvm hD1
      generalize H1 = H at hP1 hS ⊢
      have hP := hP1
      clear hP1
      refine lv_if_ne (tgt := 30) hx hb dX1_path_25 (by decide) (fun c_25 => ?_) (fun c_25 => ?_)
      · skip
        have hz : r_22 = nI 1 := by
          rcases hw_22.2 with ⟨q, _⟩ | ⟨q, _⟩
          · exact absurd (q : r_22 = 0) c_25
          · exact q
        obtain ⟨n0, hn0, hbs, hbl, hbx, hbe⟩ : ∃ n, n ≤ 19 ∧ u_22.2.2 = nI n ∧ u_22.2.1 = u_22.1 (20 * n + a) ∧ u_22.2.1 ≠ tn_MX ∧ tn_best (tn_E cnt fp sp mo on) a b u_22.2.1.toInt n := by
          rcases hw_22.2 with ⟨q, _⟩ | ⟨_, q⟩
          · exact absurd (q : r_22 = 0) c_25
          · exact q
        refine lv_aload_n hx hb dX1_path_30 rfl (lv_at hl 0 rfl) ?_
        refine va_get (D := (dC, dI)) (ci := 1) (v := .ref b5) (C := RX1) (T := TX1) (N := 12) hx hb hts hin hown hK hP 0 rfl rfl 7 (by decide) kf24 (fun _ h9 => h9) rfl dX1_path_31 ?_
        refine lv_iconst (v := nI 0) hx hb dX1_path_34 (by decide) ?_
        refine lv_iload_n hx hb dX1_path_35 rfl (lv_at hl 1 rfl) ?_
        refine tn_iast (i := 0) (f' := (fun zz => nI (va_up rw 0 a zz))) hx hb hK hP hD hS 5 0 rfl rfl (by omega) (by decide) (tn_updN rw 0 a) dX1_path_36 (fun H locs hP hD hS => ?_)
        have hP : va_P (dC, dI) vwCl (tm_ws h b1 b2 b3 b4 b5 b6 cI cL cZ 0 cnt fp sp mo on rs (va_up rw 0 a) rl u_22.1 u_22.2.1 u_22.2.2) H := hP
        have hD : va_D A (tm_ws h b1 b2 b3 b4 b5 b6 cI cL cZ 0 cnt fp sp mo on rs (va_up rw 0 a) rl u_22.1 u_22.2.1 u_22.2.2) := hD
        refine lv_aload_n hx hb dX1_path_37 rfl (lv_at hl 0 rfl) ?_
        refine lv_iconst (v := nI 1) hx hb dX1_path_38 (by decide) ?_
        refine va_put (D := (dC, dI)) (ci := 1) (v := .int (nI 1)) (ty := .int) (C := RX1) (T := TX1) (N := 12) hx hb hts hin tyX1 tyX1_ok nmX1 hown hK hP hD hS 0 rfl rfl 6 (by decide) kf50 (fun _ h9 => h9) rfl (by decide +kernel) rfl rfl (Nat.le_of_ble_eq_true rfl) dX1_path_39 (fun H locs hP hD hS => ?_)
        have hP : va_P (dC, dI) vwCl (tm_ws h b1 b2 b3 b4 b5 b6 cI cL cZ 0 cnt fp sp mo on 1 (va_up rw 0 a) rl u_22.1 u_22.2.1 u_22.2.2) H := hP
        have hD : va_D A (tm_ws h b1 b2 b3 b4 b5 b6 cI cL cZ 0 cnt fp sp mo on 1 (va_up rw 0 a) rl u_22.1 u_22.2.1 u_22.2.2) := hD
        refine lv_aload_n hx hb dX1_path_42 rfl (lv_at hl 0 rfl) ?_
        refine lv_iload_n hx hb dX1_path_43 rfl (lv_at hl 1 rfl) ?_
        have hF := tn_freeA hD hS hA
        refine va_callv (va_runV (As := [.int (nI a)]) (rest := []) ⟨hx, hb, hml, hown, hts⟩ (cX1_walk_ok l dC dI h b1 b2 b3 b4 b5 b6 cI cL cZ 0 cnt fp sp mo on 1 (va_up rw 0 a) rl u_22.1 u_22.2.1 u_22.2.2 H.size g a ha b 0 n0 rfl (by simp [va_up]) hn0 hbs hw_22.1 (hbl ▸ hbx) (hbl ▸ hbe) (by omega)) (cwV 1 hts gX1_path_X1_walk rfl rfl rfl (by decide +kernel) ⟨Nat.le_of_ble_eq_true rfl, Nat.le_of_ble_eq_true rfl⟩) (tn_preV hK hP hD (ci := 1) rfl 0 rfl) rfl rfl hl.1 rfl (lv_room (Nat.le_of_ble_eq_true rfl)) dX1_path_44 ⟨Nat.le_of_ble_eq_true rfl, Nat.le_of_ble_eq_true rfl⟩) hS (fun q _ h => hF q h) hF (fun u_44 t H1 locs ht hvm hw_44 hB hz1 hk1 hS => ?_)
        obtain ⟨hP1, -, hD1⟩ := hB
        rw [ht] at hP1
        have hD := hD1.weaken (fun _ q _ hq => hF q.1 hq)
        clear hP hk1 hF hz1 ht hvm hD1
        generalize H1 = H at hP1 hS ⊢
        have hP := hP1
        clear hP1
        refine lv_aload_n hx hb dX1_path_47 rfl (lv_at hl 0 rfl) ?_
        refine lv_aload_n hx hb dX1_path_48 rfl (lv_at hl 0 rfl) ?_
        refine va_get (D := (dC, dI)) (ci := 1) (v := .long u_22.2.1) (C := RX1) (T := TX1) (N := 12) hx hb hts hin hown hK hP 0 rfl rfl 10 (by decide) kf42 (fun _ h9 => h9) rfl dX1_path_49 ?_
        refine va_put (D := (dC, dI)) (ci := 1) (v := .long u_22.2.1) (ty := .long) (C := RX1) (T := TX1) (N := 12) hx hb hts hin tyX1 tyX1_ok nmX1 hown hK hP hD hS 0 rfl rfl 8 (by decide) kf61 (fun _ h9 => h9) rfl (by decide +kernel) rfl rfl (Nat.le_of_ble_eq_true rfl) dX1_path_52 (fun H locs hP hD hS => ?_)
        have hP : va_P (dC, dI) vwCl (tm_ws h b1 b2 b3 b4 b5 b6 cI cL cZ 0 cnt fp sp mo on u_44.2 u_44.1 u_22.2.1 u_22.1 u_22.2.1 u_22.2.2) H := hP
        have hD : va_D A (tm_ws h b1 b2 b3 b4 b5 b6 cI cL cZ 0 cnt fp sp mo on u_44.2 u_44.1 u_22.2.1 u_22.1 u_22.2.1 u_22.2.2) := hD
        refine lv_aload_n hx hb dX1_path_55 rfl (lv_at hl 0 rfl) ?_
        refine va_get (D := (dC, dI)) (ci := 1) (v := .int (nI u_44.2)) (C := RX1) (T := TX1) (N := 12) hx hb hts hin hown hK hP 0 rfl rfl 6 (by decide) kf50 (fun _ h9 => h9) rfl dX1_path_56 ?_
        exact W.iret (v := nI u_44.2) hx hb hr (fun t ht hW => ⟨⟨nI u_44.2, ((u_22.1, u_22.2.1, u_22.2.2), u_44.1, u_44.2, u_22.2.1), rfl, tm_path_yes ha hb2 hn0 hbe hw_44.1 hw_44.2.1, by rw [ht]; exact hP, va_K.moved hW.alike hK, hD⟩, hS.F ht⟩) hS.2.2 dX1_path_59
      · skip
        have hz : r_22 = nI 0 := c_25
        have hno : ∀ n L, ¬ tn_wk (tn_E cnt fp sp mo on) n a b L := by
          rcases hw_22.2 with ⟨_, _, _, q⟩ | ⟨q, _⟩
          · exact q
          · exact absurd (q.symm.trans hz) (by decide)
        refine lv_iconst (v := (-1)) hx hb dX1_path_28 (by decide) ?_
        exact W.iret (v := (-1)) hx hb hr (fun t ht hW => ⟨⟨(-1), ((u_22.1, u_22.2.1, u_22.2.2), rw, rs, rl), rfl, Or.inr ⟨tm_noab ha hb2 hno, rfl, rfl, rfl, rfl⟩, by rw [ht]; exact hP, va_K.moved hW.alike hK, hD⟩, hS.F ht⟩) hS.2.2 dX1_path_29
set_option maxHeartbeats 4000000 in
set_option maxRecDepth 100000 in
/-- bound(x, y) -/
theorem cX1_bound_ok (l : Launch) (dC : Nat → ClassId) (dI : Nat → Nat → Nat) (h b1 b2 b3 b4 b5 b6 : Nat) (cI cL cZ : ClassId) (th cnt : Nat) (fp sp : Nat → Nat) (mo : Nat → Int64) (on : Nat → Bool) (rs : Nat) (rw : Nat → Nat) (rl : Int64) (le : Nat → Int64) (bl : Int64) (bs : Int32) (sz : Nat) (g : tn_good cnt fp sp mo) (ok : tn_ok (tn_E cnt fp sp mo on)) (x y : Int32) : Met l yX1_bound wsX1_bound ({ frames := 1, cells := 0, slots := 0, locals := 26 }) (va_Pc [.ref h, .int x, .int y] (tn_Pre dC dI (tn_tys cI cL cZ) (tm_ws h b1 b2 b3 b4 b5 b6 cI cL cZ th cnt fp sp mo on rs rw rl le bl bs) sz)) (va_Ql (S := Nat × (Nat → Int64) × Int64 × Int32) (fun r u => (∃ a b, a < 20 ∧ b < 20 ∧ x = nI a ∧ y = nI b ∧ u.1 = 0 ∧ sp_bound (tn_E cnt fp sp mo on) a b r) ∨ ((∀ a b, a < 20 → b < 20 → ¬ (x = nI a ∧ y = nI b)) ∧ u.1 = 1)) (fun u t => tn_at dC dI (tn_tys cI cL cZ) (va_A (tm_ws h b1 b2 b3 b4 b5 b6 cI cL cZ th cnt fp sp mo on rs rw rl le bl bs) sz) (tm_ws h b1 b2 b3 b4 b5 b6 cI cL cZ u.1 cnt fp sp mo on rs rw rl u.2.1 u.2.2.1 u.2.2.2) t) (va_A (tm_ws h b1 b2 b3 b4 b5 b6 cI cL cZ th cnt fp sp mo on rs rw rl le bl bs) sz)) 0 0 (va_A (tm_ws h b1 b2 b3 b4 b5 b6 cI cL cZ th cnt fp sp mo on rs rw rl le bl bs) sz) := by
  refine Met.ofW (cc := cX1_bound) (maxL := 3) (ret := (some .long)) (by decide) rfl ?_
  intro p e s m args below meth c s₁ B hml hv
  obtain ⟨rfl, hsz, hP, hK, hD0⟩ := hv
  have hx := B.exec
  have hb := B.bytes
  have hr := B.returns
  have hts := atoms_spec (ws := wsX1_bound) B.pre
  have hown : s.vm.findClass RX1 = some m.cls := findClass_of_methodNamed B.named
  have hlocks := B.notSynchronized
  subst hsz
  have hD := hD0.self (sz := s.heap.size)
  generalize hAe : va_A (tm_ws h b1 b2 b3 b4 b5 b6 cI cL cZ th cnt fp sp mo on rs rw rl le bl bs) s.heap.size = A at hD ⊢
  have hA : ∀ q : Nat, s.heap.size ≤ q → A q := fun q h => by rw [← hAe]; exact Or.inr h
  have hS : va_S A s.heap s.heap [] := va_S.rf
  have hl := lv_entry ([.ref h, .int x, .int y]) (n := 3) (Nat.le_of_ble_eq_true rfl)
  rw [lg_entry_eq]
  generalize (lg_sl ([.ref h, .int x, .int y]) ++ List.replicate (3 - (lg_sl ([.ref h, .int x, .int y])).length) Slot.unset).toArray = ls at hl ⊢
  have hl : lv_has ls 3 [(0, .ref h), (1, .int x), (2, .int y)] := hl
  have kf30 := hts (.fieldLink RX1 30 "TimeNetModel" "thrown" "I") (by decide +kernel)
  have kf42 := hts (.fieldLink RX1 42 "TimeNetModel" "bestLength" "J") (by decide +kernel)
  have kc37 := hts (.constantLong RX1 37 (9223372036854775807)) (by decide +kernel)
  have hin : ∀ w ∈ u_ws RX1 TX1 12, w ∈ wsX1_bound := by decide +kernel
  have hc := g.1
  refine lv_aload_n hx hb dX1_bound_0 rfl (lv_at hl 0 rfl) ?_
  refine lv_iload_n hx hb dX1_bound_1 rfl (lv_at hl 1 rfl) ?_
  have hF := tn_freeA hD hS hA
  refine va_calli (va_runS (As := [.int x]) (rest := [.ref h]) ⟨hx, hb, hml, hown, hts⟩ (cX1_isPoint_ok l dC dI h b1 b2 b3 b4 b5 b6 cI cL cZ th cnt fp sp mo on rs rw rl le bl bs s.heap.size x) (va_cwS 1 hts gX1_bound_X1_isPoint rfl rfl rfl (by decide +kernel) ⟨Nat.le_of_ble_eq_true rfl, Nat.le_of_ble_eq_true rfl⟩) (tn_preS hK hP hD) rfl rfl hl.1 rfl (lv_room (Nat.le_of_ble_eq_true rfl)) dX1_bound_2 ⟨Nat.le_of_ble_eq_true rfl, Nat.le_of_ble_eq_true rfl⟩) hS (fun q _ h => hF q h) hF (fun r_2 u_2 t H1 locs ht hvm hw_2 hB hz1 hk1 hS => ?_)
  obtain ⟨hP1, -, hD1⟩ := hB
  rw [ht] at hP1
  have hD := hD1.weaken (fun _ q _ hq => hF q.1 hq)
  clear hP hk1 hF hz1 ht hvm hD1
  generalize H1 = H at hP1 hS ⊢
  have hP := hP1
  clear hP1
  refine lv_if_eq (tgt := 19) hx hb dX1_bound_5 (by decide) (fun c_5 => ?_) (fun c_5 => ?_)
  · skip
    have hn_2 : ∀ j, j < 20 → x ≠ nI j := by
      rcases hw_2 with ⟨q, _⟩ | ⟨_, q⟩
      · exact absurd (q ▸ c_5 : nI 1 = 0) (by decide)
      · exact q
    refine lv_iconst (v := nI 1) hx hb dX1_bound_19 (by decide) ?_
    refine va_put (D := (dC, dI)) (ci := 1) (v := .int (nI 1)) (ty := .int) (C := RX1) (T := TX1) (N := 12) hx hb hts hin tyX1 tyX1_ok nmX1 hown hK hP hD hS 0 rfl rfl 0 (by decide) kf30 (fun _ h9 => h9) rfl (by decide +kernel) rfl rfl (Nat.le_of_ble_eq_true rfl) dX1_bound_20 (fun H locs hP hD hS => ?_)
    have hP : va_P (dC, dI) vwCl (tm_ws h b1 b2 b3 b4 b5 b6 cI cL cZ 1 cnt fp sp mo on rs rw rl le bl bs) H := hP
    have hD : va_D A (tm_ws h b1 b2 b3 b4 b5 b6 cI cL cZ 1 cnt fp sp mo on rs rw rl le bl bs) := hD
    refine lv_aload_n hx hb dX1_bound_23 rfl (lv_at hl 0 rfl) ?_
    refine va_get (D := (dC, dI)) (ci := 1) (v := .int (nI 1)) (C := RX1) (T := TX1) (N := 12) hx hb hts hin hown hK hP 0 rfl rfl 0 (by decide) kf30 (fun _ h9 => h9) rfl dX1_bound_24 ?_
    refine lv_if_le (tgt := 32) hx hb dX1_bound_27 (by decide) (fun c_27 => ?_) (fun c_27 => ?_)
    · skip
      exact absurd c_27 (by decide)
    · skip
      refine lv_lconst (v := 0) hx hb dX1_bound_30 (by decide) ?_
      exact W.lret (v := 0) hx hb hr (fun t ht hW => ⟨⟨0, (1, le, bl, bs), rfl, Or.inr ⟨fun a b ha _ q => hn_2 a ha q.1, rfl⟩, by rw [ht]; exact hP, va_K.moved hW.alike hK, hD⟩, hS.F ht⟩) hS.2.2 dX1_bound_31
  · skip
    obtain ⟨a, ha, ea⟩ : ∃ j, j < 20 ∧ x = nI j := by
      rcases hw_2 with ⟨_, q⟩ | ⟨q, _⟩
      · exact q
      · exact absurd (q : r_2 = 0) c_5
    subst ea
    refine lv_iload_n hx hb dX1_bound_8 rfl (lv_at hl 2 rfl) ?_
    have hF := tn_freeA hD hS hA
    refine va_calli (va_runS (As := [.int y]) (rest := [.ref h]) ⟨hx, hb, hml, hown, hts⟩ (cX1_isPoint_ok l dC dI h b1 b2 b3 b4 b5 b6 cI cL cZ th cnt fp sp mo on rs rw rl le bl bs H.size y) (va_cwS 1 hts gX1_bound_X1_isPoint rfl rfl rfl (by decide +kernel) ⟨Nat.le_of_ble_eq_true rfl, Nat.le_of_ble_eq_true rfl⟩) (tn_preS hK hP hD) rfl rfl hl.1 rfl (lv_room (Nat.le_of_ble_eq_true rfl)) dX1_bound_9 ⟨Nat.le_of_ble_eq_true rfl, Nat.le_of_ble_eq_true rfl⟩) hS (fun q _ h => hF q h) hF (fun r_9 u_9 t H1 locs ht hvm hw_9 hB hz1 hk1 hS => ?_)
    obtain ⟨hP1, -, hD1⟩ := hB
    rw [ht] at hP1
    have hD := hD1.weaken (fun _ q _ hq => hF q.1 hq)
    clear hP hk1 hF hz1 ht hvm hD1
    generalize H1 = H at hP1 hS ⊢
    have hP := hP1
    clear hP1
    refine lv_if_eq (tgt := 19) hx hb dX1_bound_12 (by decide) (fun c_12 => ?_) (fun c_12 => ?_)
    · skip
      have hn_9 : ∀ j, j < 20 → y ≠ nI j := by
        rcases hw_9 with ⟨q, _⟩ | ⟨_, q⟩
        · exact absurd (q ▸ c_12 : nI 1 = 0) (by decide)
        · exact q
      refine lv_iconst (v := nI 1) hx hb dX1_bound_19 (by decide) ?_
      refine va_put (D := (dC, dI)) (ci := 1) (v := .int (nI 1)) (ty := .int) (C := RX1) (T := TX1) (N := 12) hx hb hts hin tyX1 tyX1_ok nmX1 hown hK hP hD hS 0 rfl rfl 0 (by decide) kf30 (fun _ h9 => h9) rfl (by decide +kernel) rfl rfl (Nat.le_of_ble_eq_true rfl) dX1_bound_20 (fun H locs hP hD hS => ?_)
      have hP : va_P (dC, dI) vwCl (tm_ws h b1 b2 b3 b4 b5 b6 cI cL cZ 1 cnt fp sp mo on rs rw rl le bl bs) H := hP
      have hD : va_D A (tm_ws h b1 b2 b3 b4 b5 b6 cI cL cZ 1 cnt fp sp mo on rs rw rl le bl bs) := hD
      refine lv_aload_n hx hb dX1_bound_23 rfl (lv_at hl 0 rfl) ?_
      refine va_get (D := (dC, dI)) (ci := 1) (v := .int (nI 1)) (C := RX1) (T := TX1) (N := 12) hx hb hts hin hown hK hP 0 rfl rfl 0 (by decide) kf30 (fun _ h9 => h9) rfl dX1_bound_24 ?_
      refine lv_if_le (tgt := 32) hx hb dX1_bound_27 (by decide) (fun c_27 => ?_) (fun c_27 => ?_)
      · skip
        exact absurd c_27 (by decide)
      · skip
        refine lv_lconst (v := 0) hx hb dX1_bound_30 (by decide) ?_
        exact W.lret (v := 0) hx hb hr (fun t ht hW => ⟨⟨0, (1, le, bl, bs), rfl, Or.inr ⟨fun a2 b _ hb q => hn_9 b hb q.2, rfl⟩, by rw [ht]; exact hP, va_K.moved hW.alike hK, hD⟩, hS.F ht⟩) hS.2.2 dX1_bound_31
    · skip
      obtain ⟨b, hb2, eb⟩ : ∃ j, j < 20 ∧ y = nI j := by
        rcases hw_9 with ⟨_, q⟩ | ⟨q, _⟩
        · exact q
        · exact absurd (q : r_9 = 0) c_12
      subst eb
      refine lv_iconst (v := nI 0) hx hb dX1_bound_15 (by decide) ?_
      refine lv_goto (tgt := 20) hx hb dX1_bound_16 (by decide) ?_
      refine va_put (D := (dC, dI)) (ci := 1) (v := .int (nI 0)) (ty := .int) (C := RX1) (T := TX1) (N := 12) hx hb hts hin tyX1 tyX1_ok nmX1 hown hK hP hD hS 0 rfl rfl 0 (by decide) kf30 (fun _ h9 => h9) rfl (by decide +kernel) rfl rfl (Nat.le_of_ble_eq_true rfl) dX1_bound_20 (fun H locs hP hD hS => ?_)
      have hP : va_P (dC, dI) vwCl (tm_ws h b1 b2 b3 b4 b5 b6 cI cL cZ 0 cnt fp sp mo on rs rw rl le bl bs) H := hP
      have hD : va_D A (tm_ws h b1 b2 b3 b4 b5 b6 cI cL cZ 0 cnt fp sp mo on rs rw rl le bl bs) := hD
      refine lv_aload_n hx hb dX1_bound_23 rfl (lv_at hl 0 rfl) ?_
      refine va_get (D := (dC, dI)) (ci := 1) (v := .int (nI 0)) (C := RX1) (T := TX1) (N := 12) hx hb hts hin hown hK hP 0 rfl rfl 0 (by decide) kf30 (fun _ h9 => h9) rfl dX1_bound_24 ?_
      refine lv_if_le (tgt := 32) hx hb dX1_bound_27 (by decide) (fun c_27 => ?_) (fun c_27 => ?_)
      · skip
        refine lv_aload_n hx hb dX1_bound_32 rfl (lv_at hl 0 rfl) ?_
        refine lv_iload_n hx hb dX1_bound_33 rfl (lv_at hl 1 rfl) ?_
        refine lv_iload_n hx hb dX1_bound_34 rfl (lv_at hl 2 rfl) ?_
        have hF := tn_freeA hD hS hA
        refine va_calli (va_runV (As := [.int (nI a), .int (nI b)]) (rest := []) ⟨hx, hb, hml, hown, hts⟩ (cX1_best_ok l dC dI h b1 b2 b3 b4 b5 b6 cI cL cZ 0 cnt fp sp mo on rs rw rl le bl bs H.size g ok a ha b hb2) (cwV 2 hts gX1_bound_X1_best rfl rfl rfl (by decide +kernel) ⟨Nat.le_of_ble_eq_true rfl, Nat.le_of_ble_eq_true rfl⟩) (tn_preV hK hP hD (ci := 1) rfl 0 rfl) rfl rfl hl.1 rfl (lv_room (Nat.le_of_ble_eq_true rfl)) dX1_bound_35 ⟨Nat.le_of_ble_eq_true rfl, Nat.le_of_ble_eq_true rfl⟩) hS (fun q _ h => hF q h) hF (fun r_35 u_35 t H1 locs ht hvm hw_35 hB hz1 hk1 hS => ?_)
        obtain ⟨hP1, -, hD1⟩ := hB
        rw [ht] at hP1
        have hD := hD1.weaken (fun _ q _ hq => hF q.1 hq)
        clear hP hk1 hF hz1 ht hvm hD1
        generalize H1 = H at hP1 hS ⊢
        have hP := hP1
        clear hP1
        refine lv_if_eq (tgt := 48) hx hb dX1_bound_38 (by decide) (fun c_38 => ?_) (fun c_38 => ?_)
        · skip
          have hz : r_35 = nI 0 := c_38
          have hno : ∀ n L, ¬ tn_wk (tn_E cnt fp sp mo on) n a b L := by
            rcases hw_35.2 with ⟨_, _, _, q⟩ | ⟨q, _⟩
            · exact q
            · exact absurd (q.symm.trans hz) (by decide)
          refine lv_ldc2 (v := 9223372036854775807) hx hb hown kc37 dX1_bound_48 ?_
          exact W.lret (v := 9223372036854775807) hx hb hr (fun t ht hW => ⟨⟨9223372036854775807, (0, u_35.1, u_35.2.1, u_35.2.2), rfl, Or.inl ⟨a, b, ha, hb2, rfl, rfl, rfl, Or.inr ⟨hno, rfl⟩⟩, by rw [ht]; exact hP, va_K.moved hW.alike hK, hD⟩, hS.F ht⟩) hS.2.2 dX1_bound_51
        · skip
          have hz : r_35 = nI 1 := by
            rcases hw_35.2 with ⟨q, _⟩ | ⟨q, _⟩
            · exact absurd (q : r_35 = 0) c_38
            · exact q
          obtain ⟨n0, hn0, hbs, hbl, hbx, hbe⟩ : ∃ n, n ≤ 19 ∧ u_35.2.2 = nI n ∧ u_35.2.1 = u_35.1 (20 * n + a) ∧ u_35.2.1 ≠ tn_MX ∧ tn_best (tn_E cnt fp sp mo on) a b u_35.2.1.toInt n := by
            rcases hw_35.2 with ⟨q, _⟩ | ⟨_, q⟩
            · exact absurd (q : r_35 = 0) c_38
            · exact q
          refine lv_aload_n hx hb dX1_bound_41 rfl (lv_at hl 0 rfl) ?_
          refine va_get (D := (dC, dI)) (ci := 1) (v := .long u_35.2.1) (C := RX1) (T := TX1) (N := 12) hx hb hts hin hown hK hP 0 rfl rfl 10 (by decide) kf42 (fun _ h9 => h9) rfl dX1_bound_42 ?_
          refine lv_goto (tgt := 51) hx hb dX1_bound_45 (by decide) ?_
          exact W.lret (v := u_35.2.1) hx hb hr (fun t ht hW => ⟨⟨u_35.2.1, (0, u_35.1, u_35.2.1, u_35.2.2), rfl, Or.inl ⟨a, b, ha, hb2, rfl, rfl, rfl, Or.inl ⟨_, n0, hbe, rfl⟩⟩, by rw [ht]; exact hP, va_K.moved hW.alike hK, hD⟩, hS.F ht⟩) hS.2.2 dX1_bound_51
      · skip
        exact absurd (show nI 0 ≤ 0 by decide) c_27
set_option maxHeartbeats 4000000 in
set_option maxRecDepth 100000 in
/-- earliest(x) -/
theorem cX1_earliest_ok (l : Launch) (dC : Nat → ClassId) (dI : Nat → Nat → Nat) (h b1 b2 b3 b4 b5 b6 : Nat) (cI cL cZ : ClassId) (th cnt : Nat) (fp sp : Nat → Nat) (mo : Nat → Int64) (on : Nat → Bool) (rs : Nat) (rw : Nat → Nat) (rl : Int64) (le : Nat → Int64) (bl : Int64) (bs : Int32) (sz : Nat) (g : tn_good cnt fp sp mo) (ok : tn_ok (tn_E cnt fp sp mo on)) (x : Int32) : Met l yX1_earliest wsX1_earliest ({ frames := 1, cells := 0, slots := 0, locals := 26 }) (va_Pc [.ref h, .int x] (tn_Pre dC dI (tn_tys cI cL cZ) (tm_ws h b1 b2 b3 b4 b5 b6 cI cL cZ th cnt fp sp mo on rs rw rl le bl bs) sz)) (va_Ql (S := Nat × (Nat → Int64) × Int64 × Int32) (fun r u => (∃ a, a < 20 ∧ x = nI a ∧ u.1 = 0 ∧ sp_earl (tn_E cnt fp sp mo on) a r) ∨ ((∀ a, a < 20 → ¬ x = nI a) ∧ u.1 = 1)) (fun u t => tn_at dC dI (tn_tys cI cL cZ) (va_A (tm_ws h b1 b2 b3 b4 b5 b6 cI cL cZ th cnt fp sp mo on rs rw rl le bl bs) sz) (tm_ws h b1 b2 b3 b4 b5 b6 cI cL cZ u.1 cnt fp sp mo on rs rw rl u.2.1 u.2.2.1 u.2.2.2) t) (va_A (tm_ws h b1 b2 b3 b4 b5 b6 cI cL cZ th cnt fp sp mo on rs rw rl le bl bs) sz)) 0 0 (va_A (tm_ws h b1 b2 b3 b4 b5 b6 cI cL cZ th cnt fp sp mo on rs rw rl le bl bs) sz) := by
  refine Met.ofW (cc := cX1_earliest) (maxL := 2) (ret := (some .long)) (by decide) rfl ?_
  intro p e s m args below meth c s₁ B hml hv
  obtain ⟨rfl, hsz, hP, hK, hD0⟩ := hv
  have hx := B.exec
  have hb := B.bytes
  have hr := B.returns
  have hts := atoms_spec (ws := wsX1_earliest) B.pre
  have hown : s.vm.findClass RX1 = some m.cls := findClass_of_methodNamed B.named
  have hlocks := B.notSynchronized
  subst hsz
  have hD := hD0.self (sz := s.heap.size)
  generalize hAe : va_A (tm_ws h b1 b2 b3 b4 b5 b6 cI cL cZ th cnt fp sp mo on rs rw rl le bl bs) s.heap.size = A at hD ⊢
  have hA : ∀ q : Nat, s.heap.size ≤ q → A q := fun q h => by rw [← hAe]; exact Or.inr h
  have hS : va_S A s.heap s.heap [] := va_S.rf
  have hl := lv_entry ([.ref h, .int x]) (n := 2) (Nat.le_of_ble_eq_true rfl)
  rw [lg_entry_eq]
  generalize (lg_sl ([.ref h, .int x]) ++ List.replicate (2 - (lg_sl ([.ref h, .int x])).length) Slot.unset).toArray = ls at hl ⊢
  have hl : lv_has ls 2 [(0, .ref h), (1, .int x)] := hl
  have kf30 := hts (.fieldLink RX1 30 "TimeNetModel" "thrown" "I") (by decide +kernel)
  have kf42 := hts (.fieldLink RX1 42 "TimeNetModel" "bestLength" "J") (by decide +kernel)
  have kc79 := hts (.constantLong RX1 79 (-9223372036854775808)) (by decide +kernel)
  have hin : ∀ w ∈ u_ws RX1 TX1 12, w ∈ wsX1_earliest := by decide +kernel
  have hc := g.1
  refine lv_aload_n hx hb dX1_earliest_0 rfl (lv_at hl 0 rfl) ?_
  refine lv_iload_n hx hb dX1_earliest_1 rfl (lv_at hl 1 rfl) ?_
  have hF := tn_freeA hD hS hA
  refine va_calli (va_runS (As := [.int x]) (rest := [.ref h]) ⟨hx, hb, hml, hown, hts⟩ (cX1_isPoint_ok l dC dI h b1 b2 b3 b4 b5 b6 cI cL cZ th cnt fp sp mo on rs rw rl le bl bs s.heap.size x) (va_cwS 1 hts gX1_earliest_X1_isPoint rfl rfl rfl (by decide +kernel) ⟨Nat.le_of_ble_eq_true rfl, Nat.le_of_ble_eq_true rfl⟩) (tn_preS hK hP hD) rfl rfl hl.1 rfl (lv_room (Nat.le_of_ble_eq_true rfl)) dX1_earliest_2 ⟨Nat.le_of_ble_eq_true rfl, Nat.le_of_ble_eq_true rfl⟩) hS (fun q _ h => hF q h) hF (fun r_2 u_2 t H1 locs ht hvm hw_2 hB hz1 hk1 hS => ?_)
  obtain ⟨hP1, -, hD1⟩ := hB
  rw [ht] at hP1
  have hD := hD1.weaken (fun _ q _ hq => hF q.1 hq)
  clear hP hk1 hF hz1 ht hvm hD1
  generalize H1 = H at hP1 hS ⊢
  have hP := hP1
  clear hP1
  refine lv_if_eq (tgt := 12) hx hb dX1_earliest_5 (by decide) (fun c_5 => ?_) (fun c_5 => ?_)
  · skip
    have hn_2 : ∀ j, j < 20 → x ≠ nI j := by
      rcases hw_2 with ⟨q, _⟩ | ⟨_, q⟩
      · exact absurd (q ▸ c_5 : nI 1 = 0) (by decide)
      · exact q
    refine lv_iconst (v := nI 1) hx hb dX1_earliest_12 (by decide) ?_
    refine va_put (D := (dC, dI)) (ci := 1) (v := .int (nI 1)) (ty := .int) (C := RX1) (T := TX1) (N := 12) hx hb hts hin tyX1 tyX1_ok nmX1 hown hK hP hD hS 0 rfl rfl 0 (by decide) kf30 (fun _ h9 => h9) rfl (by decide +kernel) rfl rfl (Nat.le_of_ble_eq_true rfl) dX1_earliest_13 (fun H locs hP hD hS => ?_)
    have hP : va_P (dC, dI) vwCl (tm_ws h b1 b2 b3 b4 b5 b6 cI cL cZ 1 cnt fp sp mo on rs rw rl le bl bs) H := hP
    have hD : va_D A (tm_ws h b1 b2 b3 b4 b5 b6 cI cL cZ 1 cnt fp sp mo on rs rw rl le bl bs) := hD
    refine lv_aload_n hx hb dX1_earliest_16 rfl (lv_at hl 0 rfl) ?_
    refine va_get (D := (dC, dI)) (ci := 1) (v := .int (nI 1)) (C := RX1) (T := TX1) (N := 12) hx hb hts hin hown hK hP 0 rfl rfl 0 (by decide) kf30 (fun _ h9 => h9) rfl dX1_earliest_17 ?_
    refine lv_if_le (tgt := 25) hx hb dX1_earliest_20 (by decide) (fun c_20 => ?_) (fun c_20 => ?_)
    · skip
      exact absurd c_20 (by decide)
    · skip
      refine lv_lconst (v := 0) hx hb dX1_earliest_23 (by decide) ?_
      exact W.lret (v := 0) hx hb hr (fun t ht hW => ⟨⟨0, (1, le, bl, bs), rfl, Or.inr ⟨fun a ha q => hn_2 a ha q, rfl⟩, by rw [ht]; exact hP, va_K.moved hW.alike hK, hD⟩, hS.F ht⟩) hS.2.2 dX1_earliest_24
  · skip
    obtain ⟨a, ha, ea⟩ : ∃ j, j < 20 ∧ x = nI j := by
      rcases hw_2 with ⟨_, q⟩ | ⟨q, _⟩
      · exact q
      · exact absurd (q : r_2 = 0) c_5
    subst ea
    refine lv_iconst (v := nI 0) hx hb dX1_earliest_8 (by decide) ?_
    refine lv_goto (tgt := 13) hx hb dX1_earliest_9 (by decide) ?_
    refine va_put (D := (dC, dI)) (ci := 1) (v := .int (nI 0)) (ty := .int) (C := RX1) (T := TX1) (N := 12) hx hb hts hin tyX1 tyX1_ok nmX1 hown hK hP hD hS 0 rfl rfl 0 (by decide) kf30 (fun _ h9 => h9) rfl (by decide +kernel) rfl rfl (Nat.le_of_ble_eq_true rfl) dX1_earliest_13 (fun H locs hP hD hS => ?_)
    have hP : va_P (dC, dI) vwCl (tm_ws h b1 b2 b3 b4 b5 b6 cI cL cZ 0 cnt fp sp mo on rs rw rl le bl bs) H := hP
    have hD : va_D A (tm_ws h b1 b2 b3 b4 b5 b6 cI cL cZ 0 cnt fp sp mo on rs rw rl le bl bs) := hD
    refine lv_aload_n hx hb dX1_earliest_16 rfl (lv_at hl 0 rfl) ?_
    refine va_get (D := (dC, dI)) (ci := 1) (v := .int (nI 0)) (C := RX1) (T := TX1) (N := 12) hx hb hts hin hown hK hP 0 rfl rfl 0 (by decide) kf30 (fun _ h9 => h9) rfl dX1_earliest_17 ?_
    refine lv_if_le (tgt := 25) hx hb dX1_earliest_20 (by decide) (fun c_20 => ?_) (fun c_20 => ?_)
    · skip
      refine lv_aload_n hx hb dX1_earliest_25 rfl (lv_at hl 0 rfl) ?_
      refine lv_iload_n hx hb dX1_earliest_26 rfl (lv_at hl 1 rfl) ?_
      refine lv_iconst (v := nI 0) hx hb dX1_earliest_27 (by decide) ?_
      have hF := tn_freeA hD hS hA
      refine va_calli (va_runV (As := [.int (nI a), .int (nI 0)]) (rest := []) ⟨hx, hb, hml, hown, hts⟩ (cX1_best_ok l dC dI h b1 b2 b3 b4 b5 b6 cI cL cZ 0 cnt fp sp mo on rs rw rl le bl bs H.size g ok a ha 0 (by omega)) (cwV 2 hts gX1_earliest_X1_best rfl rfl rfl (by decide +kernel) ⟨Nat.le_of_ble_eq_true rfl, Nat.le_of_ble_eq_true rfl⟩) (tn_preV hK hP hD (ci := 1) rfl 0 rfl) rfl rfl hl.1 rfl (lv_room (Nat.le_of_ble_eq_true rfl)) dX1_earliest_28 ⟨Nat.le_of_ble_eq_true rfl, Nat.le_of_ble_eq_true rfl⟩) hS (fun q _ h => hF q h) hF (fun r_28 u_28 t H1 locs ht hvm hw_28 hB hz1 hk1 hS => ?_)
      obtain ⟨hP1, -, hD1⟩ := hB
      rw [ht] at hP1
      have hD := hD1.weaken (fun _ q _ hq => hF q.1 hq)
      clear hP hk1 hF hz1 ht hvm hD1
      generalize H1 = H at hP1 hS ⊢
      have hP := hP1
      clear hP1
      refine lv_if_eq (tgt := 42) hx hb dX1_earliest_31 (by decide) (fun c_31 => ?_) (fun c_31 => ?_)
      · skip
        have hz : r_28 = nI 0 := c_31
        have hno : ∀ n L, ¬ tn_wk (tn_E cnt fp sp mo on) n a 0 L := by
          rcases hw_28.2 with ⟨_, _, _, q⟩ | ⟨q, _⟩
          · exact q
          · exact absurd (q.symm.trans hz) (by decide)
        refine lv_ldc2 (v := (-9223372036854775808)) hx hb hown kc79 dX1_earliest_42 ?_
        exact W.lret (v := (-9223372036854775808)) hx hb hr (fun t ht hW => ⟨⟨(-9223372036854775808), (0, u_28.1, u_28.2.1, u_28.2.2), rfl, Or.inl ⟨a, ha, rfl, rfl, Or.inr ⟨hno, rfl⟩⟩, by rw [ht]; exact hP, va_K.moved hW.alike hK, hD⟩, hS.F ht⟩) hS.2.2 dX1_earliest_45
      · skip
        have hz : r_28 = nI 1 := by
          rcases hw_28.2 with ⟨q, _⟩ | ⟨q, _⟩
          · exact absurd (q : r_28 = 0) c_31
          · exact q
        obtain ⟨n0, hn0, hbs, hbl, hbx, hbe⟩ : ∃ n, n ≤ 19 ∧ u_28.2.2 = nI n ∧ u_28.2.1 = u_28.1 (20 * n + a) ∧ u_28.2.1 ≠ tn_MX ∧ tn_best (tn_E cnt fp sp mo on) a 0 u_28.2.1.toInt n := by
          rcases hw_28.2 with ⟨q, _⟩ | ⟨_, q⟩
          · exact absurd (q : r_28 = 0) c_31
          · exact q
        refine lv_aload_n hx hb dX1_earliest_34 rfl (lv_at hl 0 rfl) ?_
        refine va_get (D := (dC, dI)) (ci := 1) (v := .long u_28.2.1) (C := RX1) (T := TX1) (N := 12) hx hb hts hin hown hK hP 0 rfl rfl 10 (by decide) kf42 (fun _ h9 => h9) rfl dX1_earliest_35 ?_
        refine lv_lneg hx hb dX1_earliest_38 ?_
        refine lv_goto (tgt := 45) hx hb dX1_earliest_39 (by decide) ?_
        exact W.lret (v := -u_28.2.1) hx hb hr (fun t ht hW => ⟨⟨-u_28.2.1, (0, u_28.1, u_28.2.1, u_28.2.2), rfl, Or.inl ⟨a, ha, rfl, rfl, Or.inl ⟨_, n0, hbe, tm_neg (tn_E_bd g) hn0 hbe⟩⟩, by rw [ht]; exact hP, va_K.moved hW.alike hK, hD⟩, hS.F ht⟩) hS.2.2 dX1_earliest_45
    · skip
      exact absurd (show nI 0 ≤ 0 by decide) c_20
set_option maxHeartbeats 4000000 in
set_option maxRecDepth 100000 in
/-- thrown() -/
theorem cX1_thrown_ok (l : Launch) (dC : Nat → ClassId) (dI : Nat → Nat → Nat) (h b1 b2 b3 b4 b5 b6 : Nat) (cI cL cZ : ClassId) (th cnt : Nat) (fp sp : Nat → Nat) (mo : Nat → Int64) (on : Nat → Bool) (rs : Nat) (rw : Nat → Nat) (rl : Int64) (le : Nat → Int64) (bl : Int64) (bs : Int32) (sz : Nat)  : Met l yX1_thrown wsX1_thrown ({ frames := 0, cells := 0, slots := 0, locals := 0 }) (va_Pc [.ref h] (tn_Pre dC dI (tn_tys cI cL cZ) (tm_ws h b1 b2 b3 b4 b5 b6 cI cL cZ th cnt fp sp mo on rs rw rl le bl bs) sz)) (va_Qi (S := Unit) (fun r _ => r = nI th) (fun u t => tn_at dC dI (tn_tys cI cL cZ) (va_A (tm_ws h b1 b2 b3 b4 b5 b6 cI cL cZ th cnt fp sp mo on rs rw rl le bl bs) sz) (tm_ws h b1 b2 b3 b4 b5 b6 cI cL cZ th cnt fp sp mo on rs rw rl le bl bs) t) (va_A (tm_ws h b1 b2 b3 b4 b5 b6 cI cL cZ th cnt fp sp mo on rs rw rl le bl bs) sz)) 0 0 (va_A (tm_ws h b1 b2 b3 b4 b5 b6 cI cL cZ th cnt fp sp mo on rs rw rl le bl bs) sz) := by
  refine Met.ofW (cc := cX1_thrown) (maxL := 1) (ret := (some .int)) (by decide) rfl ?_
  intro p e s m args below meth c s₁ B hml hv
  obtain ⟨rfl, hsz, hP, hK, hD0⟩ := hv
  have hx := B.exec
  have hb := B.bytes
  have hr := B.returns
  have hts := atoms_spec (ws := wsX1_thrown) B.pre
  have hown : s.vm.findClass RX1 = some m.cls := findClass_of_methodNamed B.named
  have hlocks := B.notSynchronized
  subst hsz
  have hD := hD0.self (sz := s.heap.size)
  generalize hAe : va_A (tm_ws h b1 b2 b3 b4 b5 b6 cI cL cZ th cnt fp sp mo on rs rw rl le bl bs) s.heap.size = A at hD ⊢
  have hA : ∀ q : Nat, s.heap.size ≤ q → A q := fun q h => by rw [← hAe]; exact Or.inr h
  have hS : va_S A s.heap s.heap [] := va_S.rf
  have hl := lv_entry ([.ref h]) (n := 1) (Nat.le_of_ble_eq_true rfl)
  rw [lg_entry_eq]
  generalize (lg_sl ([.ref h]) ++ List.replicate (1 - (lg_sl ([.ref h])).length) Slot.unset).toArray = ls at hl ⊢
  have hl : lv_has ls 1 [(0, .ref h)] := hl
  have kf30 := hts (.fieldLink RX1 30 "TimeNetModel" "thrown" "I") (by decide +kernel)
  have hin : ∀ w ∈ u_ws RX1 TX1 12, w ∈ wsX1_thrown := by decide +kernel
  refine lv_aload_n hx hb dX1_thrown_0 rfl (lv_at hl 0 rfl) ?_
  refine va_get (D := (dC, dI)) (ci := 1) (v := .int (nI th)) (C := RX1) (T := TX1) (N := 12) hx hb hts hin hown hK hP 0 rfl rfl 0 (by decide) kf30 (fun _ h9 => h9) rfl dX1_thrown_1 ?_
  exact W.iret (v := nI th) hx hb hr (fun t ht hW => ⟨⟨nI th, (), rfl, rfl, by rw [ht]; exact hP, va_K.moved hW.alike hK, hD⟩, hS.F ht⟩) hS.2.2 dX1_thrown_4
set_option maxHeartbeats 4000000 in
set_option maxRecDepth 100000 in
/-- row() -/
theorem cX1_row_ok (l : Launch) (dC : Nat → ClassId) (dI : Nat → Nat → Nat) (h b1 b2 b3 b4 b5 b6 : Nat) (cI cL cZ : ClassId) (th cnt : Nat) (fp sp : Nat → Nat) (mo : Nat → Int64) (on : Nat → Bool) (rs : Nat) (rw : Nat → Nat) (rl : Int64) (le : Nat → Int64) (bl : Int64) (bs : Int32) (sz : Nat)  : Met l yX1_row wsX1_row ({ frames := 0, cells := 0, slots := 0, locals := 0 }) (va_Pc [.ref h] (tn_Pre dC dI (tn_tys cI cL cZ) (tm_ws h b1 b2 b3 b4 b5 b6 cI cL cZ th cnt fp sp mo on rs rw rl le bl bs) sz)) (va_Qi (S := Unit) (fun r _ => r = nI rs) (fun u t => tn_at dC dI (tn_tys cI cL cZ) (va_A (tm_ws h b1 b2 b3 b4 b5 b6 cI cL cZ th cnt fp sp mo on rs rw rl le bl bs) sz) (tm_ws h b1 b2 b3 b4 b5 b6 cI cL cZ 0 cnt fp sp mo on rs rw rl le bl bs) t) (va_A (tm_ws h b1 b2 b3 b4 b5 b6 cI cL cZ th cnt fp sp mo on rs rw rl le bl bs) sz)) 0 0 (va_A (tm_ws h b1 b2 b3 b4 b5 b6 cI cL cZ th cnt fp sp mo on rs rw rl le bl bs) sz) := by
  refine Met.ofW (cc := cX1_row) (maxL := 1) (ret := (some .int)) (by decide) rfl ?_
  intro p e s m args below meth c s₁ B hml hv
  obtain ⟨rfl, hsz, hP, hK, hD0⟩ := hv
  have hx := B.exec
  have hb := B.bytes
  have hr := B.returns
  have hts := atoms_spec (ws := wsX1_row) B.pre
  have hown : s.vm.findClass RX1 = some m.cls := findClass_of_methodNamed B.named
  have hlocks := B.notSynchronized
  subst hsz
  have hD := hD0.self (sz := s.heap.size)
  generalize hAe : va_A (tm_ws h b1 b2 b3 b4 b5 b6 cI cL cZ th cnt fp sp mo on rs rw rl le bl bs) s.heap.size = A at hD ⊢
  have hA : ∀ q : Nat, s.heap.size ≤ q → A q := fun q h => by rw [← hAe]; exact Or.inr h
  have hS : va_S A s.heap s.heap [] := va_S.rf
  have hl := lv_entry ([.ref h]) (n := 1) (Nat.le_of_ble_eq_true rfl)
  rw [lg_entry_eq]
  generalize (lg_sl ([.ref h]) ++ List.replicate (1 - (lg_sl ([.ref h])).length) Slot.unset).toArray = ls at hl ⊢
  have hl : lv_has ls 1 [(0, .ref h)] := hl
  have kf30 := hts (.fieldLink RX1 30 "TimeNetModel" "thrown" "I") (by decide +kernel)
  have kf50 := hts (.fieldLink RX1 50 "TimeNetModel" "rowSize" "I") (by decide +kernel)
  have hin : ∀ w ∈ u_ws RX1 TX1 12, w ∈ wsX1_row := by decide +kernel
  refine lv_aload_n hx hb dX1_row_0 rfl (lv_at hl 0 rfl) ?_
  refine lv_iconst (v := nI 0) hx hb dX1_row_1 (by decide) ?_
  refine va_put (D := (dC, dI)) (ci := 1) (v := .int (nI 0)) (ty := .int) (C := RX1) (T := TX1) (N := 12) hx hb hts hin tyX1 tyX1_ok nmX1 hown hK hP hD hS 0 rfl rfl 0 (by decide) kf30 (fun _ h9 => h9) rfl (by decide +kernel) rfl rfl (Nat.le_of_ble_eq_true rfl) dX1_row_2 (fun H locs hP hD hS => ?_)
  have hP : va_P (dC, dI) vwCl (tm_ws h b1 b2 b3 b4 b5 b6 cI cL cZ 0 cnt fp sp mo on rs rw rl le bl bs) H := hP
  have hD : va_D A (tm_ws h b1 b2 b3 b4 b5 b6 cI cL cZ 0 cnt fp sp mo on rs rw rl le bl bs) := hD
  refine lv_aload_n hx hb dX1_row_5 rfl (lv_at hl 0 rfl) ?_
  refine va_get (D := (dC, dI)) (ci := 1) (v := .int (nI rs)) (C := RX1) (T := TX1) (N := 12) hx hb hts hin hown hK hP 0 rfl rfl 6 (by decide) kf50 (fun _ h9 => h9) rfl dX1_row_6 ?_
  exact W.iret (v := nI rs) hx hb hr (fun t ht hW => ⟨⟨nI rs, (), rfl, rfl, by rw [ht]; exact hP, va_K.moved hW.alike hK, hD⟩, hS.F ht⟩) hS.2.2 dX1_row_9
set_option maxHeartbeats 4000000 in
set_option maxRecDepth 100000 in
/-- rowAt(x) -/
theorem cX1_rowAt_ok (l : Launch) (dC : Nat → ClassId) (dI : Nat → Nat → Nat) (h b1 b2 b3 b4 b5 b6 : Nat) (cI cL cZ : ClassId) (th cnt : Nat) (fp sp : Nat → Nat) (mo : Nat → Int64) (on : Nat → Bool) (rs : Nat) (rw : Nat → Nat) (rl : Int64) (le : Nat → Int64) (bl : Int64) (bs : Int32) (sz : Nat) (hrs : rs ≤ 24) (x : Int32) : Met l yX1_rowAt wsX1_rowAt ({ frames := 0, cells := 0, slots := 0, locals := 0 }) (va_Pc [.ref h, .int x] (tn_Pre dC dI (tn_tys cI cL cZ) (tm_ws h b1 b2 b3 b4 b5 b6 cI cL cZ th cnt fp sp mo on rs rw rl le bl bs) sz)) (va_Qi (S := Unit) (fun r _ => sp_rowAt rw rs x r) (fun u t => tn_at dC dI (tn_tys cI cL cZ) (va_A (tm_ws h b1 b2 b3 b4 b5 b6 cI cL cZ th cnt fp sp mo on rs rw rl le bl bs) sz) (tm_ws h b1 b2 b3 b4 b5 b6 cI cL cZ 0 cnt fp sp mo on rs rw rl le bl bs) t) (va_A (tm_ws h b1 b2 b3 b4 b5 b6 cI cL cZ th cnt fp sp mo on rs rw rl le bl bs) sz)) 0 0 (va_A (tm_ws h b1 b2 b3 b4 b5 b6 cI cL cZ th cnt fp sp mo on rs rw rl le bl bs) sz) := by
  refine Met.ofW (cc := cX1_rowAt) (maxL := 2) (ret := (some .int)) (by decide) rfl ?_
  intro p e s m args below meth c s₁ B hml hv
  obtain ⟨rfl, hsz, hP, hK, hD0⟩ := hv
  have hx := B.exec
  have hb := B.bytes
  have hr := B.returns
  have hts := atoms_spec (ws := wsX1_rowAt) B.pre
  have hown : s.vm.findClass RX1 = some m.cls := findClass_of_methodNamed B.named
  have hlocks := B.notSynchronized
  subst hsz
  have hD := hD0.self (sz := s.heap.size)
  generalize hAe : va_A (tm_ws h b1 b2 b3 b4 b5 b6 cI cL cZ th cnt fp sp mo on rs rw rl le bl bs) s.heap.size = A at hD ⊢
  have hA : ∀ q : Nat, s.heap.size ≤ q → A q := fun q h => by rw [← hAe]; exact Or.inr h
  have hS : va_S A s.heap s.heap [] := va_S.rf
  have hl := lv_entry ([.ref h, .int x]) (n := 2) (Nat.le_of_ble_eq_true rfl)
  rw [lg_entry_eq]
  generalize (lg_sl ([.ref h, .int x]) ++ List.replicate (2 - (lg_sl ([.ref h, .int x])).length) Slot.unset).toArray = ls at hl ⊢
  have hl : lv_has ls 2 [(0, .ref h), (1, .int x)] := hl
  have kf30 := hts (.fieldLink RX1 30 "TimeNetModel" "thrown" "I") (by decide +kernel)
  have kf50 := hts (.fieldLink RX1 50 "TimeNetModel" "rowSize" "I") (by decide +kernel)
  have kf24 := hts (.fieldLink RX1 24 "TimeNetModel" "row" "[I") (by decide +kernel)
  have hin : ∀ w ∈ u_ws RX1 TX1 12, w ∈ wsX1_rowAt := by decide +kernel
  refine lv_aload_n hx hb dX1_rowAt_0 rfl (lv_at hl 0 rfl) ?_
  refine lv_iconst (v := nI 0) hx hb dX1_rowAt_1 (by decide) ?_
  refine va_put (D := (dC, dI)) (ci := 1) (v := .int (nI 0)) (ty := .int) (C := RX1) (T := TX1) (N := 12) hx hb hts hin tyX1 tyX1_ok nmX1 hown hK hP hD hS 0 rfl rfl 0 (by decide) kf30 (fun _ h9 => h9) rfl (by decide +kernel) rfl rfl (Nat.le_of_ble_eq_true rfl) dX1_rowAt_2 (fun H locs hP hD hS => ?_)
  have hP : va_P (dC, dI) vwCl (tm_ws h b1 b2 b3 b4 b5 b6 cI cL cZ 0 cnt fp sp mo on rs rw rl le bl bs) H := hP
  have hD : va_D A (tm_ws h b1 b2 b3 b4 b5 b6 cI cL cZ 0 cnt fp sp mo on rs rw rl le bl bs) := hD
  refine lv_iload_n hx hb dX1_rowAt_5 rfl (lv_at hl 1 rfl) ?_
  refine lv_if_lt (tgt := 26) hx hb dX1_rowAt_6 (by decide) (fun c_6 => ?_) (fun c_6 => ?_)
  · skip
    refine lv_iconst (v := (-1)) hx hb dX1_rowAt_26 (by decide) ?_
    exact W.iret (v := (-1)) hx hb hr (fun t ht hW => ⟨⟨(-1), (), rfl, Or.inr ⟨tn_ix2 c_6 (by omega), rfl⟩, by rw [ht]; exact hP, va_K.moved hW.alike hK, hD⟩, hS.F ht⟩) hS.2.2 dX1_rowAt_27
  · skip
    refine lv_iload_n hx hb dX1_rowAt_9 rfl (lv_at hl 1 rfl) ?_
    refine lv_aload_n hx hb dX1_rowAt_10 rfl (lv_at hl 0 rfl) ?_
    refine va_get (D := (dC, dI)) (ci := 1) (v := .int (nI rs)) (C := RX1) (T := TX1) (N := 12) hx hb hts hin hown hK hP 0 rfl rfl 6 (by decide) kf50 (fun _ h9 => h9) rfl dX1_rowAt_11 ?_
    refine lv_icmp_ge (tgt := 26) hx hb dX1_rowAt_14 (by decide) (fun c_14 => ?_) (fun c_14 => ?_)
    · skip
      refine lv_iconst (v := (-1)) hx hb dX1_rowAt_26 (by decide) ?_
      exact W.iret (v := (-1)) hx hb hr (fun t ht hW => ⟨⟨(-1), (), rfl, Or.inr ⟨tn_ix3 c_14 (by omega), rfl⟩, by rw [ht]; exact hP, va_K.moved hW.alike hK, hD⟩, hS.F ht⟩) hS.2.2 dX1_rowAt_27
    · skip
      obtain ⟨k, hk, ex⟩ := tn_ix1 c_6 c_14 (by omega)
      subst ex
      refine lv_aload_n hx hb dX1_rowAt_17 rfl (lv_at hl 0 rfl) ?_
      refine va_get (D := (dC, dI)) (ci := 1) (v := .ref b5) (C := RX1) (T := TX1) (N := 12) hx hb hts hin hown hK hP 0 rfl rfl 7 (by decide) kf24 (fun _ h9 => h9) rfl dX1_rowAt_18 ?_
      refine lv_iload_n hx hb dX1_rowAt_21 rfl (lv_at hl 1 rfl) ?_
      refine tn_iald (i := k) (v := nI (rw k)) hx hb hK hP 5 0 rfl rfl (by omega) (by decide) rfl dX1_rowAt_22 ?_
      refine lv_goto (tgt := 27) hx hb dX1_rowAt_23 (by decide) ?_
      exact W.iret (v := nI (rw k)) hx hb hr (fun t ht hW => ⟨⟨nI (rw k), (), rfl, Or.inl ⟨k, hk, rfl, rfl⟩, by rw [ht]; exact hP, va_K.moved hW.alike hK, hD⟩, hS.F ht⟩) hS.2.2 dX1_rowAt_27
set_option maxHeartbeats 4000000 in
set_option maxRecDepth 100000 in
/-- length() -/
theorem cX1_length_ok (l : Launch) (dC : Nat → ClassId) (dI : Nat → Nat → Nat) (h b1 b2 b3 b4 b5 b6 : Nat) (cI cL cZ : ClassId) (th cnt : Nat) (fp sp : Nat → Nat) (mo : Nat → Int64) (on : Nat → Bool) (rs : Nat) (rw : Nat → Nat) (rl : Int64) (le : Nat → Int64) (bl : Int64) (bs : Int32) (sz : Nat) (hrs : rs ≤ 24) : Met l yX1_length wsX1_length ({ frames := 0, cells := 0, slots := 0, locals := 0 }) (va_Pc [.ref h] (tn_Pre dC dI (tn_tys cI cL cZ) (tm_ws h b1 b2 b3 b4 b5 b6 cI cL cZ th cnt fp sp mo on rs rw rl le bl bs) sz)) (va_Ql (S := Unit) (fun r _ => (rs = 0 ∧ r = 0) ∨ (rs ≠ 0 ∧ r = rl)) (fun u t => tn_at dC dI (tn_tys cI cL cZ) (va_A (tm_ws h b1 b2 b3 b4 b5 b6 cI cL cZ th cnt fp sp mo on rs rw rl le bl bs) sz) (tm_ws h b1 b2 b3 b4 b5 b6 cI cL cZ 0 cnt fp sp mo on rs rw rl le bl bs) t) (va_A (tm_ws h b1 b2 b3 b4 b5 b6 cI cL cZ th cnt fp sp mo on rs rw rl le bl bs) sz)) 0 0 (va_A (tm_ws h b1 b2 b3 b4 b5 b6 cI cL cZ th cnt fp sp mo on rs rw rl le bl bs) sz) := by
  refine Met.ofW (cc := cX1_length) (maxL := 1) (ret := (some .long)) (by decide) rfl ?_
  intro p e s m args below meth c s₁ B hml hv
  obtain ⟨rfl, hsz, hP, hK, hD0⟩ := hv
  have hx := B.exec
  have hb := B.bytes
  have hr := B.returns
  have hts := atoms_spec (ws := wsX1_length) B.pre
  have hown : s.vm.findClass RX1 = some m.cls := findClass_of_methodNamed B.named
  have hlocks := B.notSynchronized
  subst hsz
  have hD := hD0.self (sz := s.heap.size)
  generalize hAe : va_A (tm_ws h b1 b2 b3 b4 b5 b6 cI cL cZ th cnt fp sp mo on rs rw rl le bl bs) s.heap.size = A at hD ⊢
  have hA : ∀ q : Nat, s.heap.size ≤ q → A q := fun q h => by rw [← hAe]; exact Or.inr h
  have hS : va_S A s.heap s.heap [] := va_S.rf
  have hl := lv_entry ([.ref h]) (n := 1) (Nat.le_of_ble_eq_true rfl)
  rw [lg_entry_eq]
  generalize (lg_sl ([.ref h]) ++ List.replicate (1 - (lg_sl ([.ref h])).length) Slot.unset).toArray = ls at hl ⊢
  have hl : lv_has ls 1 [(0, .ref h)] := hl
  have kf30 := hts (.fieldLink RX1 30 "TimeNetModel" "thrown" "I") (by decide +kernel)
  have kf50 := hts (.fieldLink RX1 50 "TimeNetModel" "rowSize" "I") (by decide +kernel)
  have kf61 := hts (.fieldLink RX1 61 "TimeNetModel" "rowLength" "J") (by decide +kernel)
  have hin : ∀ w ∈ u_ws RX1 TX1 12, w ∈ wsX1_length := by decide +kernel
  refine lv_aload_n hx hb dX1_length_0 rfl (lv_at hl 0 rfl) ?_
  refine lv_iconst (v := nI 0) hx hb dX1_length_1 (by decide) ?_
  refine va_put (D := (dC, dI)) (ci := 1) (v := .int (nI 0)) (ty := .int) (C := RX1) (T := TX1) (N := 12) hx hb hts hin tyX1 tyX1_ok nmX1 hown hK hP hD hS 0 rfl rfl 0 (by decide) kf30 (fun _ h9 => h9) rfl (by decide +kernel) rfl rfl (Nat.le_of_ble_eq_true rfl) dX1_length_2 (fun H locs hP hD hS => ?_)
  have hP : va_P (dC, dI) vwCl (tm_ws h b1 b2 b3 b4 b5 b6 cI cL cZ 0 cnt fp sp mo on rs rw rl le bl bs) H := hP
  have hD : va_D A (tm_ws h b1 b2 b3 b4 b5 b6 cI cL cZ 0 cnt fp sp mo on rs rw rl le bl bs) := hD
  refine lv_aload_n hx hb dX1_length_5 rfl (lv_at hl 0 rfl) ?_
  refine va_get (D := (dC, dI)) (ci := 1) (v := .int (nI rs)) (C := RX1) (T := TX1) (N := 12) hx hb hts hin hown hK hP 0 rfl rfl 6 (by decide) kf50 (fun _ h9 => h9) rfl dX1_length_6 ?_
  refine lv_if_ne (tgt := 16) hx hb dX1_length_9 (by decide) (fun c_9 => ?_) (fun c_9 => ?_)
  · skip
    have hrz : rs ≠ 0 := fun q => c_9 (by rw [q]; decide)
    refine lv_aload_n hx hb dX1_length_16 rfl (lv_at hl 0 rfl) ?_
    refine va_get (D := (dC, dI)) (ci := 1) (v := .long rl) (C := RX1) (T := TX1) (N := 12) hx hb hts hin hown hK hP 0 rfl rfl 8 (by decide) kf61 (fun _ h9 => h9) rfl dX1_length_17 ?_
    exact W.lret (v := rl) hx hb hr (fun t ht hW => ⟨⟨rl, (), rfl, Or.inr ⟨hrz, rfl⟩, by rw [ht]; exact hP, va_K.moved hW.alike hK, hD⟩, hS.F ht⟩) hS.2.2 dX1_length_20
  · skip
    have hrz : rs = 0 := (nI_eq (by omega) (by omega)).mp (show nI rs = nI 0 from c_9)
    refine lv_lconst (v := 0) hx hb dX1_length_12 (by decide) ?_
    refine lv_goto (tgt := 20) hx hb dX1_length_13 (by decide) ?_
    exact W.lret (v := 0) hx hb hr (fun t ht hW => ⟨⟨0, (), rfl, Or.inl ⟨hrz, rfl⟩, by rw [ht]; exact hP, va_K.moved hW.alike hK, hD⟩, hS.F ht⟩) hS.2.2 dX1_length_20
set_option maxHeartbeats 4000000 in
set_option maxRecDepth 100000 in
/-- slack(x) -/
theorem cX1_slack_ok (l : Launch) (dC : Nat → ClassId) (dI : Nat → Nat → Nat) (h b1 b2 b3 b4 b5 b6 : Nat) (cI cL cZ : ClassId) (th cnt : Nat) (fp sp : Nat → Nat) (mo : Nat → Int64) (on : Nat → Bool) (rs : Nat) (rw : Nat → Nat) (rl : Int64) (le : Nat → Int64) (bl : Int64) (bs : Int32) (sz : Nat) (g : tn_good cnt fp sp mo) (ok : tn_ok (tn_E cnt fp sp mo on)) (x : Int32) : Met l yX1_slack wsX1_slack ({ frames := 1, cells := 0, slots := 0, locals := 26 }) (va_Pc [.ref h, .int x] (tn_Pre dC dI (tn_tys cI cL cZ) (tm_ws h b1 b2 b3 b4 b5 b6 cI cL cZ th cnt fp sp mo on rs rw rl le bl bs) sz)) (va_Ql (S := (Nat → Int64) × Int64 × Int32) (fun r _ => sp_slack cnt fp sp mo on x r) (fun u t => tn_at dC dI (tn_tys cI cL cZ) (va_A (tm_ws h b1 b2 b3 b4 b5 b6 cI cL cZ th cnt fp sp mo on rs rw rl le bl bs) sz) (tm_ws h b1 b2 b3 b4 b5 b6 cI cL cZ 0 cnt fp sp mo on rs rw rl u.1 u.2.1 u.2.2) t) (va_A (tm_ws h b1 b2 b3 b4 b5 b6 cI cL cZ th cnt fp sp mo on rs rw rl le bl bs) sz)) 0 0 (va_A (tm_ws h b1 b2 b3 b4 b5 b6 cI cL cZ th cnt fp sp mo on rs rw rl le bl bs) sz) := by
  refine Met.ofW (cc := cX1_slack) (maxL := 2) (ret := (some .long)) (by decide) rfl ?_
  intro p e s m args below meth c s₁ B hml hv
  obtain ⟨rfl, hsz, hP, hK, hD0⟩ := hv
  have hx := B.exec
  have hb := B.bytes
  have hr := B.returns
  have hts := atoms_spec (ws := wsX1_slack) B.pre
  have hown : s.vm.findClass RX1 = some m.cls := findClass_of_methodNamed B.named
  have hlocks := B.notSynchronized
  subst hsz
  have hD := hD0.self (sz := s.heap.size)
  generalize hAe : va_A (tm_ws h b1 b2 b3 b4 b5 b6 cI cL cZ th cnt fp sp mo on rs rw rl le bl bs) s.heap.size = A at hD ⊢
  have hA : ∀ q : Nat, s.heap.size ≤ q → A q := fun q h => by rw [← hAe]; exact Or.inr h
  have hS : va_S A s.heap s.heap [] := va_S.rf
  have hl := lv_entry ([.ref h, .int x]) (n := 2) (Nat.le_of_ble_eq_true rfl)
  rw [lg_entry_eq]
  generalize (lg_sl ([.ref h, .int x]) ++ List.replicate (2 - (lg_sl ([.ref h, .int x])).length) Slot.unset).toArray = ls at hl ⊢
  have hl : lv_has ls 2 [(0, .ref h), (1, .int x)] := hl
  have kf30 := hts (.fieldLink RX1 30 "TimeNetModel" "thrown" "I") (by decide +kernel)
  have kf20 := hts (.fieldLink RX1 20 "TimeNetModel" "isOn" "[Z") (by decide +kernel)
  have kf7 := hts (.fieldLink RX1 7 "TimeNetModel" "first" "[I") (by decide +kernel)
  have kf13 := hts (.fieldLink RX1 13 "TimeNetModel" "second" "[I") (by decide +kernel)
  have kc81 := hts (.constantLong RX1 81 (-1)) (by decide +kernel)
  have kf16 := hts (.fieldLink RX1 16 "TimeNetModel" "c" "[J") (by decide +kernel)
  have kf42 := hts (.fieldLink RX1 42 "TimeNetModel" "bestLength" "J") (by decide +kernel)
  have hin : ∀ w ∈ u_ws RX1 TX1 12, w ∈ wsX1_slack := by decide +kernel
  have hc := g.1
  refine lv_aload_n hx hb dX1_slack_0 rfl (lv_at hl 0 rfl) ?_
  refine lv_iconst (v := nI 0) hx hb dX1_slack_1 (by decide) ?_
  refine va_put (D := (dC, dI)) (ci := 1) (v := .int (nI 0)) (ty := .int) (C := RX1) (T := TX1) (N := 12) hx hb hts hin tyX1 tyX1_ok nmX1 hown hK hP hD hS 0 rfl rfl 0 (by decide) kf30 (fun _ h9 => h9) rfl (by decide +kernel) rfl rfl (Nat.le_of_ble_eq_true rfl) dX1_slack_2 (fun H locs hP hD hS => ?_)
  have hP : va_P (dC, dI) vwCl (tm_ws h b1 b2 b3 b4 b5 b6 cI cL cZ 0 cnt fp sp mo on rs rw rl le bl bs) H := hP
  have hD : va_D A (tm_ws h b1 b2 b3 b4 b5 b6 cI cL cZ 0 cnt fp sp mo on rs rw rl le bl bs) := hD
  refine lv_aload_n hx hb dX1_slack_5 rfl (lv_at hl 0 rfl) ?_
  refine lv_iload_n hx hb dX1_slack_6 rfl (lv_at hl 1 rfl) ?_
  have hF := tn_freeA hD hS hA
  refine va_calli (va_runV (As := [.int x]) (rest := []) ⟨hx, hb, hml, hown, hts⟩ (cX1_isThere_ok l dC dI h b1 b2 b3 b4 b5 b6 cI cL cZ 0 cnt fp sp mo on rs rw rl le bl bs H.size hc x) (cwV 1 hts gX1_slack_X1_isThere rfl rfl rfl (by decide +kernel) ⟨Nat.le_of_ble_eq_true rfl, Nat.le_of_ble_eq_true rfl⟩) (tn_preV hK hP hD (ci := 1) rfl 0 rfl) rfl rfl hl.1 rfl (lv_room (Nat.le_of_ble_eq_true rfl)) dX1_slack_7 ⟨Nat.le_of_ble_eq_true rfl, Nat.le_of_ble_eq_true rfl⟩) hS (fun q _ h => hF q h) hF (fun r_7 u_7 t H1 locs ht hvm hw_7 hB hz1 hk1 hS => ?_)
  obtain ⟨hP1, -, hD1⟩ := hB
  rw [ht] at hP1
  have hD := hD1.weaken (fun _ q _ hq => hF q.1 hq)
  clear hP hk1 hF hz1 ht hvm hD1
  generalize H1 = H at hP1 hS ⊢
  have hP := hP1
  clear hP1
  refine lv_if_eq (tgt := 41) hx hb dX1_slack_10 (by decide) (fun c_10 => ?_) (fun c_10 => ?_)
  · skip
    have hn_7 : ∀ j, j < cnt → x ≠ nI j := by
      rcases hw_7 with ⟨q, _⟩ | ⟨_, q⟩
      · exact absurd (q ▸ c_10 : nI 1 = 0) (by decide)
      · exact q
    refine lv_ldc2 (v := (-1)) hx hb hown kc81 dX1_slack_41 ?_
    exact W.lret (v := (-1)) hx hb hr (fun t ht hW => ⟨⟨(-1), (le, bl, bs), rfl, Or.inr ⟨fun k hk e => absurd e (hn_7 k hk), rfl⟩, by rw [ht]; exact hP, va_K.moved hW.alike hK, hD⟩, hS.F ht⟩) hS.2.2 dX1_slack_44
  · skip
    obtain ⟨k, hk, ex⟩ : ∃ j, j < cnt ∧ x = nI j := by
      rcases hw_7 with ⟨_, q⟩ | ⟨q, _⟩
      · exact q
      · exact absurd (q : r_7 = 0) c_10
    subst ex
    refine lv_aload_n hx hb dX1_slack_13 rfl (lv_at hl 0 rfl) ?_
    refine va_get (D := (dC, dI)) (ci := 1) (v := .ref b4) (C := RX1) (T := TX1) (N := 12) hx hb hts hin hown hK hP 0 rfl rfl 5 (by decide) kf20 (fun _ h9 => h9) rfl dX1_slack_14 ?_
    refine lv_iload_n hx hb dX1_slack_17 rfl (lv_at hl 1 rfl) ?_
    refine tn_zald (i := k) (v := tn_b (on k)) hx hb hK hP 4 2 rfl rfl (by omega) (by decide) rfl dX1_slack_18 ?_
    refine lv_if_eq (tgt := 41) hx hb dX1_slack_19 (by decide) (fun c_19 => ?_) (fun c_19 => ?_)
    · skip
      have ho := tn_b_eq0 c_19
      refine lv_ldc2 (v := (-1)) hx hb hown kc81 dX1_slack_41 ?_
      exact W.lret (v := (-1)) hx hb hr (fun t ht hW => ⟨⟨(-1), (le, bl, bs), rfl, Or.inr ⟨fun k2 hk2 e => by rw [(nI_eq (by omega) (by omega)).mp e] at ho; exact ho, rfl⟩, by rw [ht]; exact hP, va_K.moved hW.alike hK, hD⟩, hS.F ht⟩) hS.2.2 dX1_slack_44
    · skip
      have ho := tn_b_ne0 c_19
      have hk0 := (g.2 k hk).1
      have hk1 := (g.2 k hk).2.1
      have hk4 := g.2 k hk
      refine lv_aload_n hx hb dX1_slack_22 rfl (lv_at hl 0 rfl) ?_
      refine lv_aload_n hx hb dX1_slack_23 rfl (lv_at hl 0 rfl) ?_
      refine va_get (D := (dC, dI)) (ci := 1) (v := .ref b1) (C := RX1) (T := TX1) (N := 12) hx hb hts hin hown hK hP 0 rfl rfl 2 (by decide) kf7 (fun _ h9 => h9) rfl dX1_slack_24 ?_
      refine lv_iload_n hx hb dX1_slack_27 rfl (lv_at hl 1 rfl) ?_
      refine tn_iald (i := k) (v := nI (fp k)) hx hb hK hP 1 0 rfl rfl (by omega) (by decide) rfl dX1_slack_28 ?_
      refine lv_aload_n hx hb dX1_slack_29 rfl (lv_at hl 0 rfl) ?_
      refine va_get (D := (dC, dI)) (ci := 1) (v := .ref b2) (C := RX1) (T := TX1) (N := 12) hx hb hts hin hown hK hP 0 rfl rfl 3 (by decide) kf13 (fun _ h9 => h9) rfl dX1_slack_30 ?_
      refine lv_iload_n hx hb dX1_slack_33 rfl (lv_at hl 1 rfl) ?_
      refine tn_iald (i := k) (v := nI (sp k)) hx hb hK hP 2 0 rfl rfl (by omega) (by decide) rfl dX1_slack_34 ?_
      have hF := tn_freeA hD hS hA
      refine va_calli (va_runV (As := [.int (nI (fp k)), .int (nI (sp k))]) (rest := []) ⟨hx, hb, hml, hown, hts⟩ (cX1_best_ok l dC dI h b1 b2 b3 b4 b5 b6 cI cL cZ 0 cnt fp sp mo on rs rw rl le bl bs H.size g ok (fp k) hk0 (sp k) hk1) (cwV 2 hts gX1_slack_X1_best rfl rfl rfl (by decide +kernel) ⟨Nat.le_of_ble_eq_true rfl, Nat.le_of_ble_eq_true rfl⟩) (tn_preV hK hP hD (ci := 1) rfl 0 rfl) rfl rfl hl.1 rfl (lv_room (Nat.le_of_ble_eq_true rfl)) dX1_slack_35 ⟨Nat.le_of_ble_eq_true rfl, Nat.le_of_ble_eq_true rfl⟩) hS (fun q _ h => hF q h) hF (fun r_35 u_35 t H1 locs ht hvm hw_35 hB hz1 hk1 hS => ?_)
      obtain ⟨hP1, -, hD1⟩ := hB
      rw [ht] at hP1
      have hD := hD1.weaken (fun _ q _ hq => hF q.1 hq)
      clear hP hk1 hF hz1 ht hvm hD1
      generalize H1 = H at hP1 hS ⊢
      have hP := hP1
      clear hP1
      refine lv_if_ne (tgt := 45) hx hb dX1_slack_38 (by decide) (fun c_38 => ?_) (fun c_38 => ?_)
      · skip
        have hz : r_35 = nI 1 := by
          rcases hw_35.2 with ⟨q, _⟩ | ⟨q, _⟩
          · exact absurd (q : r_35 = 0) c_38
          · exact q
        obtain ⟨n0, hn0, hbs, hbl, hbx, hbe⟩ : ∃ n, n ≤ 19 ∧ u_35.2.2 = nI n ∧ u_35.2.1 = u_35.1 (20 * n + (fp k)) ∧ u_35.2.1 ≠ tn_MX ∧ tn_best (tn_E cnt fp sp mo on) (fp k) (sp k) u_35.2.1.toInt n := by
          rcases hw_35.2 with ⟨q, _⟩ | ⟨_, q⟩
          · exact absurd (q : r_35 = 0) c_38
          · exact q
        refine lv_aload_n hx hb dX1_slack_45 rfl (lv_at hl 0 rfl) ?_
        refine va_get (D := (dC, dI)) (ci := 1) (v := .ref b3) (C := RX1) (T := TX1) (N := 12) hx hb hts hin hown hK hP 0 rfl rfl 4 (by decide) kf16 (fun _ h9 => h9) rfl dX1_slack_46 ?_
        refine lv_iload_n hx hb dX1_slack_49 rfl (lv_at hl 1 rfl) ?_
        refine tn_lald (i := k) (v := mo k) hx hb hK hP 3 1 rfl rfl (by omega) (by decide) rfl dX1_slack_50 ?_
        refine lv_aload_n hx hb dX1_slack_51 rfl (lv_at hl 0 rfl) ?_
        refine va_get (D := (dC, dI)) (ci := 1) (v := .long u_35.2.1) (C := RX1) (T := TX1) (N := 12) hx hb hts hin hown hK hP 0 rfl rfl 10 (by decide) kf42 (fun _ h9 => h9) rfl dX1_slack_52 ?_
        refine lv_lsub hx hb dX1_slack_55 ?_
        exact W.lret (v := (mo k) - u_35.2.1) hx hb hr (fun t ht hW => ⟨⟨(mo k) - u_35.2.1, (u_35.1, u_35.2.1, u_35.2.2), rfl, Or.inl ⟨k, _, n0, hk, rfl, ho, hbe, tm_sub (tn_E_bd g) hn0 hbe hk4.2.2.1 hk4.2.2.2⟩, by rw [ht]; exact hP, va_K.moved hW.alike hK, hD⟩, hS.F ht⟩) hS.2.2 dX1_slack_56
      · skip
        exact absurd (tn_wk_one (E := tn_E cnt fp sp mo on) (i := fp k) (j := sp k) (c := (mo k).toInt) ⟨k, hk, ho, rfl, rfl, rfl⟩) (by
          rcases hw_35.2 with ⟨_, _, _, q⟩ | ⟨q, _⟩
          · exact q _ _
          · exact absurd (q.symm.trans c_38 : nI 1 = 0) (by decide))
set_option maxHeartbeats 4000000 in
set_option maxRecDepth 100000 in
/-- alive() -/
theorem cX1_alive_ok (l : Launch) (dC : Nat → ClassId) (dI : Nat → Nat → Nat) (h b1 b2 b3 b4 b5 b6 : Nat) (cI cL cZ : ClassId) (th cnt : Nat) (fp sp : Nat → Nat) (mo : Nat → Int64) (on : Nat → Bool) (rs : Nat) (rw : Nat → Nat) (rl : Int64) (le : Nat → Int64) (bl : Int64) (bs : Int32) (sz : Nat) (hc : cnt ≤ 120) : Met l yX1_alive wsX1_alive ({ frames := 0, cells := 0, slots := 0, locals := 0 }) (va_Pc [.ref h] (tn_Pre dC dI (tn_tys cI cL cZ) (tm_ws h b1 b2 b3 b4 b5 b6 cI cL cZ th cnt fp sp mo on rs rw rl le bl bs) sz)) (va_Qi (S := Unit) (fun r _ => r = nI (tn_cn on cnt)) (fun u t => tn_at dC dI (tn_tys cI cL cZ) (va_A (tm_ws h b1 b2 b3 b4 b5 b6 cI cL cZ th cnt fp sp mo on rs rw rl le bl bs) sz) (tm_ws h b1 b2 b3 b4 b5 b6 cI cL cZ 0 cnt fp sp mo on rs rw rl le bl bs) t) (va_A (tm_ws h b1 b2 b3 b4 b5 b6 cI cL cZ th cnt fp sp mo on rs rw rl le bl bs) sz)) 0 0 (va_A (tm_ws h b1 b2 b3 b4 b5 b6 cI cL cZ th cnt fp sp mo on rs rw rl le bl bs) sz) := by
  refine Met.ofW (cc := cX1_alive) (maxL := 3) (ret := (some .int)) (by decide) rfl ?_
  intro p e s m args below meth c s₁ B hml hv
  obtain ⟨rfl, hsz, hP, hK, hD0⟩ := hv
  have hx := B.exec
  have hb := B.bytes
  have hr := B.returns
  have hts := atoms_spec (ws := wsX1_alive) B.pre
  have hown : s.vm.findClass RX1 = some m.cls := findClass_of_methodNamed B.named
  have hlocks := B.notSynchronized
  subst hsz
  have hD := hD0.self (sz := s.heap.size)
  generalize hAe : va_A (tm_ws h b1 b2 b3 b4 b5 b6 cI cL cZ th cnt fp sp mo on rs rw rl le bl bs) s.heap.size = A at hD ⊢
  have hA : ∀ q : Nat, s.heap.size ≤ q → A q := fun q h => by rw [← hAe]; exact Or.inr h
  have hS : va_S A s.heap s.heap [] := va_S.rf
  have hl := lv_entry ([.ref h]) (n := 3) (Nat.le_of_ble_eq_true rfl)
  rw [lg_entry_eq]
  generalize (lg_sl ([.ref h]) ++ List.replicate (3 - (lg_sl ([.ref h])).length) Slot.unset).toArray = ls at hl ⊢
  have hl : lv_has ls 3 [(0, .ref h)] := hl
  have kf30 := hts (.fieldLink RX1 30 "TimeNetModel" "thrown" "I") (by decide +kernel)
  have kf34 := hts (.fieldLink RX1 34 "TimeNetModel" "size" "I") (by decide +kernel)
  have kf20 := hts (.fieldLink RX1 20 "TimeNetModel" "isOn" "[Z") (by decide +kernel)
  have hin : ∀ w ∈ u_ws RX1 TX1 12, w ∈ wsX1_alive := by decide +kernel
  have loop : ∀ (n : Nat) (k : Nat) (z : Nat) (H : Heap) (locs : List Loc) (ls : Array Slot), (k ≤ cnt) → (cnt < k + n) → (tn_cn on k = z) → va_P (dC, dI) vwCl (tm_ws h b1 b2 b3 b4 b5 b6 cI cL cZ 0 cnt fp sp mo on rs rw rl le bl bs) H → va_D A (tm_ws h b1 b2 b3 b4 b5 b6 cI cL cZ 0 cnt fp sp mo on rs rw rl le bl bs) → va_S A s.heap H locs → lv_has ls 3 [(0, .ref h), (1, .int (nI z)), (2, .int (nI k))] → W p l e (headSpec wsX1_alive ({ frames := 0, cells := 0, slots := 0, locals := 0 })).room s m ([.ref h] : List Value).toArray below meth c H locs 0 0 (MQ below (va_Qi (S := Unit) (fun r _ => r = nI (tn_cn on cnt)) (fun u t => tn_at dC dI (tn_tys cI cL cZ) A (tm_ws h b1 b2 b3 b4 b5 b6 cI cL cZ 0 cnt fp sp mo on rs rw rl le bl bs) t) A) (([.ref h] : List Value).toArray) s 0 0 A) (F0 m 9 ls []) := by
    intro n
    induction n with
    | zero => intro k z H locs ls hk1 hk2 hz _ _ _ _; exact absurd hk2 (by omega)
    | succ n ih_loop =>
      intro k z H locs ls hk1 hk2 hz hP hD hS hl
      refine lv_iload_n hx hb dX1_alive_9 rfl (lv_at hl 2 rfl) ?_
      refine lv_aload_n hx hb dX1_alive_10 rfl (lv_at hl 0 rfl) ?_
      refine va_get (D := (dC, dI)) (ci := 1) (v := .int (nI cnt)) (C := RX1) (T := TX1) (N := 12) hx hb hts hin hown hK hP 0 rfl rfl 1 (by decide) kf34 (fun _ h9 => h9) rfl dX1_alive_11 ?_
      refine lv_icmp_ge (tgt := 40) hx hb dX1_alive_14 (by decide) (fun c_14 => ?_) (fun c_14 => ?_)
      · skip
        have hkc : k = cnt := Nat.le_antisymm hk1 ((nI_leI (by omega) (by omega)).mp c_14)
        subst hkc
        refine lv_iload_n hx hb dX1_alive_40 rfl (lv_at hl 1 rfl) ?_
        exact W.iret (v := nI z) hx hb hr (fun t ht hW => ⟨⟨nI z, (), rfl, (show nI z = nI (tn_cn on k) by rw [hz]), by rw [ht]; exact hP, va_K.moved hW.alike hK, hD⟩, hS.F ht⟩) hS.2.2 dX1_alive_41
      · skip
        have hkc : k < cnt := Nat.lt_of_not_le (fun q => c_14 (nI_le q (by omega)))
        refine lv_iload_n hx hb dX1_alive_17 rfl (lv_at hl 1 rfl) ?_
        refine lv_aload_n hx hb dX1_alive_18 rfl (lv_at hl 0 rfl) ?_
        refine va_get (D := (dC, dI)) (ci := 1) (v := .ref b4) (C := RX1) (T := TX1) (N := 12) hx hb hts hin hown hK hP 0 rfl rfl 5 (by decide) kf20 (fun _ h9 => h9) rfl dX1_alive_19 ?_
        refine lv_iload_n hx hb dX1_alive_22 rfl (lv_at hl 2 rfl) ?_
        refine tn_zald (i := k) (v := tn_b (on k)) hx hb hK hP 4 2 rfl rfl (by omega) (by decide) rfl dX1_alive_23 ?_
        refine lv_if_eq (tgt := 31) hx hb dX1_alive_24 (by decide) (fun c_24 => ?_) (fun c_24 => ?_)
        · skip
          have ho := tn_b_eq0 c_24
          refine lv_iconst (v := nI 0) hx hb dX1_alive_31 (by decide) ?_
          refine tn_iadd (a := z) (b := 0) hx hb dX1_alive_32 ?_
          refine lv_istore_n (lv' := [(1, .int (nI (z + 0))), (0, .ref h), (2, .int (nI k))]) hx hb dX1_alive_33 rfl hl (by decide) rfl (fun ls hl => ?_)
          refine lv_iinc (v := nI (k + 1)) (lv' := [(2, .int (nI (k + 1))), (1, .int (nI (z + 0))), (0, .ref h)]) hx hb dX1_alive_34 hl (k := 2) rfl (tn_inc k) (by decide) rfl (fun ls hl => ?_)
          refine lv_goto (tgt := 9) hx hb dX1_alive_37 (by decide) ?_
          exact ih_loop (k + 1) (z + 0) _ _ _ hkc (by omega) (by rw [tn_cn, hz, ho]; rfl) hP hD hS (lv_sub hl [2, 1, 0] rfl)
        · skip
          have ho := tn_b_ne0 c_24
          refine lv_iconst (v := nI 1) hx hb dX1_alive_27 (by decide) ?_
          refine lv_goto (tgt := 32) hx hb dX1_alive_28 (by decide) ?_
          refine tn_iadd (a := z) (b := 1) hx hb dX1_alive_32 ?_
          refine lv_istore_n (lv' := [(1, .int (nI (z + 1))), (0, .ref h), (2, .int (nI k))]) hx hb dX1_alive_33 rfl hl (by decide) rfl (fun ls hl => ?_)
          refine lv_iinc (v := nI (k + 1)) (lv' := [(2, .int (nI (k + 1))), (1, .int (nI (z + 1))), (0, .ref h)]) hx hb dX1_alive_34 hl (k := 2) rfl (tn_inc k) (by decide) rfl (fun ls hl => ?_)
          refine lv_goto (tgt := 9) hx hb dX1_alive_37 (by decide) ?_
          exact ih_loop (k + 1) (z + 1) _ _ _ hkc (by omega) (by rw [tn_cn, hz, ho]; rfl) hP hD hS (lv_sub hl [2, 1, 0] rfl)
  refine lv_aload_n hx hb dX1_alive_0 rfl (lv_at hl 0 rfl) ?_
  refine lv_iconst (v := nI 0) hx hb dX1_alive_1 (by decide) ?_
  refine va_put (D := (dC, dI)) (ci := 1) (v := .int (nI 0)) (ty := .int) (C := RX1) (T := TX1) (N := 12) hx hb hts hin tyX1 tyX1_ok nmX1 hown hK hP hD hS 0 rfl rfl 0 (by decide) kf30 (fun _ h9 => h9) rfl (by decide +kernel) rfl rfl (Nat.le_of_ble_eq_true rfl) dX1_alive_2 (fun H locs hP hD hS => ?_)
  have hP : va_P (dC, dI) vwCl (tm_ws h b1 b2 b3 b4 b5 b6 cI cL cZ 0 cnt fp sp mo on rs rw rl le bl bs) H := hP
  have hD : va_D A (tm_ws h b1 b2 b3 b4 b5 b6 cI cL cZ 0 cnt fp sp mo on rs rw rl le bl bs) := hD
  refine lv_iconst (v := nI 0) hx hb dX1_alive_5 (by decide) ?_
  refine lv_istore_n (lv' := [(1, .int (nI 0)), (0, .ref h)]) hx hb dX1_alive_6 rfl hl (by decide) rfl (fun ls hl => ?_)
  refine lv_iconst (v := nI 0) hx hb dX1_alive_7 (by decide) ?_
  refine lv_istore_n (lv' := [(2, .int (nI 0)), (1, .int (nI 0)), (0, .ref h)]) hx hb dX1_alive_8 rfl hl (by decide) rfl (fun ls hl => ?_)
  exact loop (cnt + 1) 0 0 _ _ _ (Nat.zero_le _) (by omega) rfl hP hD hS (lv_sub hl [2, 1, 0] rfl)
end
section
set_option maxHeartbeats 4000000 in
set_option maxRecDepth 100000 in
/-- the law's own bound: it answers 0 with the value in its cell, or 1 -/
theorem cL_bound_ok (l : Launch) (dC : Nat → ClassId) (dI : Nat → Nat → Nat) (h a1 a2 a3 a4 a5 a6 a7 : Nat) (cI cL cZ : ClassId) (cnt onc : Nat) (fp sp : Nat → Nat) (mo : Nat → Int64) (on : Nat → Bool) (lf : Nat → Int64) (sf : Nat → Int32) (rp : Nat → Nat) (rs : Nat) (rl : Int64) (ao : Nat) (ov : Nat → Int64) (sz : Nat) (hst : l.stackTraces = false) (g : tn_good cnt fp sp mo) (ok : tn_ok (tn_E cnt fp sp mo on)) (x y : Int32) : Met l yL_bound wsL_bound ({ frames := 7, cells := 1, slots := 6, locals := 103 }) (va_Pc [.ref h, .int x, .int y, .ref ao] (tn_PreX dC dI (tn_tys cI cL cZ) ((tn_ws h a1 a2 a3 a4 a5 a6 a7 cI cL cZ cnt onc fp sp mo on lf sf rp rs rl) ++ [(ao, .inl (cL, 1, .inr (.inl ov)))]) sz)) (va_Qi (S := tn_D × (Nat → Int64)) (fun r u => (∃ a b, a < 20 ∧ b < 20 ∧ x = nI a ∧ y = nI b ∧ r = nI 0 ∧ sp_bound (tn_E cnt fp sp mo on) a b (u.2 0)) ∨ ((∀ a b, a < 20 → b < 20 → ¬ (x = nI a ∧ y = nI b)) ∧ r = nI 1)) (fun u t => tn_at dC dI (tn_tys cI cL cZ) (va_A ((tn_ws h a1 a2 a3 a4 a5 a6 a7 cI cL cZ cnt onc fp sp mo on lf sf rp rs rl) ++ [(ao, .inl (cL, 1, .inr (.inl ov)))]) sz) ((tn_ws h a1 a2 a3 a4 a5 a6 a7 cI cL cZ cnt onc fp sp mo on u.1.1 u.1.2 rp rs rl) ++ [(ao, .inl (cL, 1, .inr (.inl u.2)))]) t) (va_A ((tn_ws h a1 a2 a3 a4 a5 a6 a7 cI cL cZ cnt onc fp sp mo on lf sf rp rs rl) ++ [(ao, .inl (cL, 1, .inr (.inl ov)))]) sz)) 1 6 (va_A ((tn_ws h a1 a2 a3 a4 a5 a6 a7 cI cL cZ cnt onc fp sp mo on lf sf rp rs rl) ++ [(ao, .inl (cL, 1, .inr (.inl ov)))]) sz) := by
  refine va_MetW (cc := cL_bound) (maxL := 5) (ret := (some .int)) (hh := [(0, 9, 12, 13)]) (by decide) rfl ?_
  intro p e s m args below meth c s₁ B hml hv
  obtain ⟨rfl, ⟨hsz, hP, hK, hD0⟩, hfc, hZs⟩ := hv
  have hx := B.exec
  have hb := B.bytes
  have hr := B.returns
  have hts := atoms_spec (ws := wsL_bound) B.pre
  have hown : s.vm.findClass RL = some m.cls := findClass_of_methodNamed B.named
  have hlocks := B.notSynchronized
  have htab := vx_table (x := yL_bound) B (hts _ List.mem_cons_self)
  subst hsz
  have hD := hD0.self (sz := s.heap.size)
  generalize hAe : va_A ((tn_ws h a1 a2 a3 a4 a5 a6 a7 cI cL cZ cnt onc fp sp mo on lf sf rp rs rl) ++ [(ao, .inl (cL, 1, .inr (.inl ov)))]) s.heap.size = A at hD hZs ⊢
  have hA : ∀ q : Nat, s.heap.size ≤ q → A q := fun q h => by rw [← hAe]; exact Or.inr h
  have hS : va_S A s.heap s.heap [] := va_S.rf
  have hl := lv_entry ([.ref h, .int x, .int y, .ref ao]) (n := 5) (Nat.le_of_ble_eq_true rfl)
  rw [lg_entry_eq]
  generalize (lg_sl ([.ref h, .int x, .int y, .ref ao]) ++ List.replicate (5 - (lg_sl ([.ref h, .int x, .int y, .ref ao])).length) Slot.unset).toArray = ls at hl ⊢
  have hl : lv_has ls 5 [(0, .ref h), (1, .int x), (2, .int y), (3, .ref ao)] := hl
  refine lv_aload_n hx hb dL_bound_0 rfl (lv_at hl 3 rfl) ?_
  refine lv_iconst (v := nI 0) hx hb dL_bound_1 (by decide) ?_
  refine lv_aload_n hx hb dL_bound_2 rfl (lv_at hl 0 rfl) ?_
  refine lv_iload_n hx hb dL_bound_3 rfl (lv_at hl 1 rfl) ?_
  refine lv_iload_n hx hb dL_bound_4 rfl (lv_at hl 2 rfl) ?_
  have hPx := tn_P_l hP
  have hDx := tn_D_l hD
  have hPo := tn_P_r hP
  have hF := tn_freeA hDx hS hA
  refine vx_calll (vx_runV (As := [.int x, .int y]) (rest := [.int (nI 0), .ref ao]) ⟨hx, hb, hml, hown, hts⟩ (cX0_bound_ok l dC dI h a1 a2 a3 a4 a5 a6 a7 cI cL cZ cnt onc fp sp mo on lf sf rp rs rl s.heap.size hst g ok x y) (cwV 2 hts gL_bound_X0_bound rfl rfl rfl (by decide +kernel) ⟨Nat.le_of_ble_eq_true rfl, Nat.le_of_ble_eq_true rfl⟩) (tn_preX hK hPx (tn_D_self hDx) (ci := 0) rfl 0 rfl hfc hZs hS hF) rfl rfl hl.1 rfl (lv_room (Nat.le_of_ble_eq_true rfl)) dL_bound_5 ⟨Nat.le_of_ble_eq_true rfl, Nat.le_of_ble_eq_true rfl⟩) hS (fun q _ h => hF q h) hF (fun q _ h => hF q h) (fun E ce q9 u t H1 locs ht hvm hw hB hz1 hk1 hS hcell hcv hcl => ?_) (fun r u t H1 locs ht hvm hw hB hz1 hk1 hS => ?_)
  · obtain ⟨hE, hP1, -, hD1⟩ := hB
    rw [ht] at hP1
    subst hE
    obtain ⟨hPo1, hDn⟩ := tn_side hPo hD hk1 hF hD1
    refine tn_catch (own := RL) (name := "java/util/NoSuchElementException") hown ⟨0, 9, 12, 13⟩ [] htab (by decide) (by decide) (hts (.classLink RL 13 "java/util/NoSuchElementException") (by decide +kernel)) (hfc.use _ (by decide +kernel)) hcell hcv hcl ?_
    refine lv_astore (lv' := [(4, .ref q9), (0, .ref h), (1, .int x), (2, .int y), (3, .ref ao)]) hx hb dL_bound_12 hl (by decide) rfl (fun ls hl => ?_)
    refine lv_iconst (v := nI 1) hx hb dL_bound_14 (by decide) ?_
    refine W.widen (k := 1) (n := 6) (by omega) (by omega) ?_
    have hPn : va_P (dC, dI) vwCl ((tn_ws h a1 a2 a3 a4 a5 a6 a7 cI cL cZ cnt onc fp sp mo on lf sf rp rs rl) ++ [(ao, .inl (cL, 1, .inr (.inl ov)))]) H1 := va_P.app hP1 hPo1
    exact W.iret (v := nI 1) hx hb hr (fun t ht hW => ⟨⟨nI 1, ((lf, sf), ov), rfl, Or.inr ⟨hw, rfl⟩, by rw [ht]; exact hPn, va_K.moved hW.alike hK, hDn⟩, hS.F ht⟩) hS.2.2 dL_bound_15
  · obtain ⟨hP1, -, hD1⟩ := hB
    rw [ht] at hP1
    obtain ⟨hPo1, hDn⟩ := tn_side hPo hD hk1 hF hD1
    have hPn : va_P (dC, dI) vwCl ((tn_ws h a1 a2 a3 a4 a5 a6 a7 cI cL cZ cnt onc fp sp mo on u.1 u.2 rp rs rl) ++ [(ao, .inl (cL, 1, .inr (.inl ov)))]) H1 := va_P.app hP1 hPo1
    have hDn : va_D A ((tn_ws h a1 a2 a3 a4 a5 a6 a7 cI cL cZ cnt onc fp sp mo on u.1 u.2 rp rs rl) ++ [(ao, .inl (cL, 1, .inr (.inl ov)))]) := hDn
    refine tn_last (i := 0) (f' := vp_updL ov 0 r) hx hb hK hPn hDn hS 8 1 rfl rfl (by omega) (by decide) rfl dL_bound_8 (fun H locs hP hD hS => ?_)
    have hP : va_P (dC, dI) vwCl ((tn_ws h a1 a2 a3 a4 a5 a6 a7 cI cL cZ cnt onc fp sp mo on u.1 u.2 rp rs rl) ++ [(ao, .inl (cL, 1, .inr (.inl (vp_updL ov 0 r))))]) H := hP
    have hD : va_D A ((tn_ws h a1 a2 a3 a4 a5 a6 a7 cI cL cZ cnt onc fp sp mo on u.1 u.2 rp rs rl) ++ [(ao, .inl (cL, 1, .inr (.inl (vp_updL ov 0 r))))]) := hD
    refine lv_goto (tgt := 16) hx hb dL_bound_9 (by decide) ?_
    refine lv_iconst (v := nI 0) hx hb dL_bound_16 (by decide) ?_
    refine W.widen (k := 1) (n := 6) (by omega) (by omega) ?_
    exact W.iret (v := nI 0) hx hb hr (fun t ht hW => ⟨⟨nI 0, (u, vp_updL ov 0 r), rfl, (by obtain ⟨a, b, h1, h2, h3, h4, h5⟩ := hw; exact Or.inl ⟨a, b, h1, h2, h3, h4, rfl, by have e9 : vp_updL ov 0 r 0 = r := pk_uLs; show sp_bound (tn_E cnt fp sp mo on) a b (vp_updL ov 0 r 0); rw [e9]; exact h5⟩), by rw [ht]; exact hP, va_K.moved hW.alike hK, hD⟩, hS.F ht⟩) hS.2.2 dL_bound_17
set_option maxHeartbeats 4000000 in
set_option maxRecDepth 100000 in
/-- the law's own earliest: it answers 0 with the value in its cell, or 1 -/
theorem cL_earliest_ok (l : Launch) (dC : Nat → ClassId) (dI : Nat → Nat → Nat) (h a1 a2 a3 a4 a5 a6 a7 : Nat) (cI cL cZ : ClassId) (cnt onc : Nat) (fp sp : Nat → Nat) (mo : Nat → Int64) (on : Nat → Bool) (lf : Nat → Int64) (sf : Nat → Int32) (rp : Nat → Nat) (rs : Nat) (rl : Int64) (ao : Nat) (ov : Nat → Int64) (sz : Nat) (hst : l.stackTraces = false) (g : tn_good cnt fp sp mo) (ok : tn_ok (tn_E cnt fp sp mo on)) (x : Int32) : Met l yL_earliest wsL_earliest ({ frames := 7, cells := 1, slots := 6, locals := 102 }) (va_Pc [.ref h, .int x, .ref ao] (tn_PreX dC dI (tn_tys cI cL cZ) ((tn_ws h a1 a2 a3 a4 a5 a6 a7 cI cL cZ cnt onc fp sp mo on lf sf rp rs rl) ++ [(ao, .inl (cL, 1, .inr (.inl ov)))]) sz)) (va_Qi (S := tn_D × (Nat → Int64)) (fun r u => (∃ a, a < 20 ∧ x = nI a ∧ r = nI 0 ∧ sp_earl (tn_E cnt fp sp mo on) a (u.2 0)) ∨ ((∀ a, a < 20 → ¬ x = nI a) ∧ r = nI 1)) (fun u t => tn_at dC dI (tn_tys cI cL cZ) (va_A ((tn_ws h a1 a2 a3 a4 a5 a6 a7 cI cL cZ cnt onc fp sp mo on lf sf rp rs rl) ++ [(ao, .inl (cL, 1, .inr (.inl ov)))]) sz) ((tn_ws h a1 a2 a3 a4 a5 a6 a7 cI cL cZ cnt onc fp sp mo on u.1.1 u.1.2 rp rs rl) ++ [(ao, .inl (cL, 1, .inr (.inl u.2)))]) t) (va_A ((tn_ws h a1 a2 a3 a4 a5 a6 a7 cI cL cZ cnt onc fp sp mo on lf sf rp rs rl) ++ [(ao, .inl (cL, 1, .inr (.inl ov)))]) sz)) 1 6 (va_A ((tn_ws h a1 a2 a3 a4 a5 a6 a7 cI cL cZ cnt onc fp sp mo on lf sf rp rs rl) ++ [(ao, .inl (cL, 1, .inr (.inl ov)))]) sz) := by
  refine va_MetW (cc := cL_earliest) (maxL := 4) (ret := (some .int)) (hh := [(0, 8, 11, 13)]) (by decide) rfl ?_
  intro p e s m args below meth c s₁ B hml hv
  obtain ⟨rfl, ⟨hsz, hP, hK, hD0⟩, hfc, hZs⟩ := hv
  have hx := B.exec
  have hb := B.bytes
  have hr := B.returns
  have hts := atoms_spec (ws := wsL_earliest) B.pre
  have hown : s.vm.findClass RL = some m.cls := findClass_of_methodNamed B.named
  have hlocks := B.notSynchronized
  have htab := vx_table (x := yL_earliest) B (hts _ List.mem_cons_self)
  subst hsz
  have hD := hD0.self (sz := s.heap.size)
  generalize hAe : va_A ((tn_ws h a1 a2 a3 a4 a5 a6 a7 cI cL cZ cnt onc fp sp mo on lf sf rp rs rl) ++ [(ao, .inl (cL, 1, .inr (.inl ov)))]) s.heap.size = A at hD hZs ⊢
  have hA : ∀ q : Nat, s.heap.size ≤ q → A q := fun q h => by rw [← hAe]; exact Or.inr h
  have hS : va_S A s.heap s.heap [] := va_S.rf
  have hl := lv_entry ([.ref h, .int x, .ref ao]) (n := 4) (Nat.le_of_ble_eq_true rfl)
  rw [lg_entry_eq]
  generalize (lg_sl ([.ref h, .int x, .ref ao]) ++ List.replicate (4 - (lg_sl ([.ref h, .int x, .ref ao])).length) Slot.unset).toArray = ls at hl ⊢
  have hl : lv_has ls 4 [(0, .ref h), (1, .int x), (2, .ref ao)] := hl
  refine lv_aload_n hx hb dL_earliest_0 rfl (lv_at hl 2 rfl) ?_
  refine lv_iconst (v := nI 0) hx hb dL_earliest_1 (by decide) ?_
  refine lv_aload_n hx hb dL_earliest_2 rfl (lv_at hl 0 rfl) ?_
  refine lv_iload_n hx hb dL_earliest_3 rfl (lv_at hl 1 rfl) ?_
  have hPx := tn_P_l hP
  have hDx := tn_D_l hD
  have hPo := tn_P_r hP
  have hF := tn_freeA hDx hS hA
  refine vx_calll (vx_runV (As := [.int x]) (rest := [.int (nI 0), .ref ao]) ⟨hx, hb, hml, hown, hts⟩ (cX0_earliest_ok l dC dI h a1 a2 a3 a4 a5 a6 a7 cI cL cZ cnt onc fp sp mo on lf sf rp rs rl s.heap.size hst g ok x) (cwV 1 hts gL_earliest_X0_earliest rfl rfl rfl (by decide +kernel) ⟨Nat.le_of_ble_eq_true rfl, Nat.le_of_ble_eq_true rfl⟩) (tn_preX hK hPx (tn_D_self hDx) (ci := 0) rfl 0 rfl hfc hZs hS hF) rfl rfl hl.1 rfl (lv_room (Nat.le_of_ble_eq_true rfl)) dL_earliest_4 ⟨Nat.le_of_ble_eq_true rfl, Nat.le_of_ble_eq_true rfl⟩) hS (fun q _ h => hF q h) hF (fun q _ h => hF q h) (fun E ce q9 u t H1 locs ht hvm hw hB hz1 hk1 hS hcell hcv hcl => ?_) (fun r u t H1 locs ht hvm hw hB hz1 hk1 hS => ?_)
  · obtain ⟨hE, hP1, -, hD1⟩ := hB
    rw [ht] at hP1
    subst hE
    obtain ⟨hPo1, hDn⟩ := tn_side hPo hD hk1 hF hD1
    refine tn_catch (own := RL) (name := "java/util/NoSuchElementException") hown ⟨0, 8, 11, 13⟩ [] htab (by decide) (by decide) (hts (.classLink RL 13 "java/util/NoSuchElementException") (by decide +kernel)) (hfc.use _ (by decide +kernel)) hcell hcv hcl ?_
    refine lv_astore_n (lv' := [(3, .ref q9), (0, .ref h), (1, .int x), (2, .ref ao)]) hx hb dL_earliest_11 rfl hl (by decide) rfl (fun ls hl => ?_)
    refine lv_iconst (v := nI 1) hx hb dL_earliest_12 (by decide) ?_
    refine W.widen (k := 1) (n := 6) (by omega) (by omega) ?_
    have hPn : va_P (dC, dI) vwCl ((tn_ws h a1 a2 a3 a4 a5 a6 a7 cI cL cZ cnt onc fp sp mo on lf sf rp rs rl) ++ [(ao, .inl (cL, 1, .inr (.inl ov)))]) H1 := va_P.app hP1 hPo1
    exact W.iret (v := nI 1) hx hb hr (fun t ht hW => ⟨⟨nI 1, ((lf, sf), ov), rfl, Or.inr ⟨hw, rfl⟩, by rw [ht]; exact hPn, va_K.moved hW.alike hK, hDn⟩, hS.F ht⟩) hS.2.2 dL_earliest_13
  · obtain ⟨hP1, -, hD1⟩ := hB
    rw [ht] at hP1
    obtain ⟨hPo1, hDn⟩ := tn_side hPo hD hk1 hF hD1
    have hPn : va_P (dC, dI) vwCl ((tn_ws h a1 a2 a3 a4 a5 a6 a7 cI cL cZ cnt onc fp sp mo on u.1 u.2 rp rs rl) ++ [(ao, .inl (cL, 1, .inr (.inl ov)))]) H1 := va_P.app hP1 hPo1
    have hDn : va_D A ((tn_ws h a1 a2 a3 a4 a5 a6 a7 cI cL cZ cnt onc fp sp mo on u.1 u.2 rp rs rl) ++ [(ao, .inl (cL, 1, .inr (.inl ov)))]) := hDn
    refine tn_last (i := 0) (f' := vp_updL ov 0 r) hx hb hK hPn hDn hS 8 1 rfl rfl (by omega) (by decide) rfl dL_earliest_7 (fun H locs hP hD hS => ?_)
    have hP : va_P (dC, dI) vwCl ((tn_ws h a1 a2 a3 a4 a5 a6 a7 cI cL cZ cnt onc fp sp mo on u.1 u.2 rp rs rl) ++ [(ao, .inl (cL, 1, .inr (.inl (vp_updL ov 0 r))))]) H := hP
    have hD : va_D A ((tn_ws h a1 a2 a3 a4 a5 a6 a7 cI cL cZ cnt onc fp sp mo on u.1 u.2 rp rs rl) ++ [(ao, .inl (cL, 1, .inr (.inl (vp_updL ov 0 r))))]) := hD
    refine lv_goto (tgt := 14) hx hb dL_earliest_8 (by decide) ?_
    refine lv_iconst (v := nI 0) hx hb dL_earliest_14 (by decide) ?_
    refine W.widen (k := 1) (n := 6) (by omega) (by omega) ?_
    exact W.iret (v := nI 0) hx hb hr (fun t ht hW => ⟨⟨nI 0, (u, vp_updL ov 0 r), rfl, (by obtain ⟨a, h1, h3, h5⟩ := hw; exact Or.inl ⟨a, h1, h3, rfl, by have e9 : vp_updL ov 0 r 0 = r := pk_uLs; show sp_earl (tn_E cnt fp sp mo on) a (vp_updL ov 0 r 0); rw [e9]; exact h5⟩), by rw [ht]; exact hP, va_K.moved hW.alike hK, hD⟩, hS.F ht⟩) hS.2.2 dL_earliest_15
end
section
/-! BOTH SIDES TIED: from one state they answer alike and come to one state -/
def tl_inv (cnt onc : Nat) (fp sp : Nat → Nat) (mo : Nat → Int64) (on : Nat → Bool) (rp : Nat → Nat) (rs : Nat) (rl : Int64) (cnt2 : Nat) (fp2 sp2 : Nat → Nat) (mo2 : Nat → Int64) (on2 : Nat → Bool) (rw : Nat → Nat) (rs2 : Nat) (rl2 : Int64) : Prop :=
  (cnt2 = cnt ∧ fp2 = fp ∧ sp2 = sp ∧ mo2 = mo ∧ on2 = on ∧ rs2 = rs ∧ rl2 = rl) ∧ tn_good cnt fp sp mo ∧ tn_ok (tn_E cnt fp sp mo on) ∧ onc = tn_cn on cnt ∧ rs ≤ 21 ∧ (∀ z, z < rs → rp z = rw z) ∧ (rs = 0 → rl = 0)
theorem tl_ref {E : Nat → Nat → Int → Prop} {i j : Nat} {c : Int} {z z' : Int32} {rp rw rp1 rw1 : Nat → Nat} {rs rs1 rs2 : Nat} {rl rl1 rl2 : Int64} (h : sp_ref E i j c z rp rs rl rp1 rs1 rl1) (k : sp_ref E i j c z' rw rs rl rw1 rs2 rl2) (hrs : rs ≤ 21) (hrow : ∀ z, z < rs → rp z = rw z) (hrl : rs = 0 → rl = 0) :
    z = z' ∧ rs2 = rs1 ∧ rl2 = rl1 ∧ rs1 ≤ 21 ∧ (∀ z, z < rs1 → rp1 z = rw1 z) ∧ (rs1 = 0 → rl1 = 0) := by
  rcases h with ⟨L, n, h1, h2, h3, h4, h5, h6, h7, h8⟩ | ⟨h1, h2, h3, h4, h5⟩ <;> rcases k with ⟨L', n', k1, k2, k3, k4, k5, k6, k7, k8⟩ | ⟨k1, k2, k3, k4, k5⟩
  · obtain ⟨e1, e2⟩ := tn_best_eq h1 k1
    subst e1; subst e2
    refine ⟨h4.trans k4.symm, by omega, Int64.toInt_inj.mp (k8.trans h8.symm), by omega, fun z hz => ?_, fun q => absurd q (by omega)⟩
    cases z with
    | zero => exact h6.trans k6.symm
    | succ z =>
      have := tn_bp_eq h7 k7 z (by omega)
      rw [show z + 1 = 1 + z by omega]; exact this
  · exact absurd (k1 _ _ h1.1) (by omega)
  · exact absurd (h1 _ _ k1.1) (by omega)
  · subst h3; subst h4; subst h5; subst k3; subst k4; subst k5
    exact ⟨h2.trans k2.symm, rfl, rfl, hrs, hrow, hrl⟩
theorem tl_E_add {cnt : Nat} {fp sp : Nat → Nat} {mo : Nat → Int64} {on : Nat → Bool} {a b : Nat} {c : Int64} : ∀ i j d, tn_E (cnt + 1) (va_up fp cnt a) (va_up sp cnt b) (vp_updL mo cnt c) (va_up on cnt true) i j d → (fun i j d => tn_E cnt fp sp mo on i j d ∨ (i = a ∧ j = b ∧ d = c.toInt)) i j d := by
  rintro i j d ⟨k, hk, h1, h2, h3, h4⟩
  by_cases hkc : k = cnt
  · subst hkc
    simp only [va_up, vp_updL, if_true] at h1 h2 h3 h4
    exact Or.inr ⟨h2.symm, h3.symm, h4.symm⟩
  · simp only [va_up, vp_updL, hkc, if_false] at h1 h2 h3 h4
    exact Or.inl ⟨k, by omega, h1, h2, h3, h4⟩
theorem tl_E_on {cnt : Nat} {fp sp : Nat → Nat} {mo : Nat → Int64} {on : Nat → Bool} {k : Nat} : ∀ i j d, tn_E cnt fp sp mo (va_up on k true) i j d → (fun i j d => tn_E cnt fp sp mo on i j d ∨ (i = fp k ∧ j = sp k ∧ d = (mo k).toInt)) i j d := by
  rintro i j d ⟨z, hz, h1, h2, h3, h4⟩
  by_cases hzk : z = k
  · subst hzk
    exact Or.inr ⟨h2.symm, h3.symm, h4.symm⟩
  · simp only [va_up, hzk, if_false] at h1
    exact Or.inl ⟨z, hz, h1, h2, h3, h4⟩
theorem tl_E_off {cnt : Nat} {fp sp : Nat → Nat} {mo : Nat → Int64} {on : Nat → Bool} {k : Nat} : ∀ i j d, tn_E cnt fp sp mo (va_up on k false) i j d → tn_E cnt fp sp mo on i j d := by
  rintro i j d ⟨z, hz, h1, h2, h3, h4⟩
  by_cases hzk : z = k
  · subst hzk
    simp [va_up] at h1
  · simp only [va_up, hzk, if_false] at h1
    exact ⟨z, hz, h1, h2, h3, h4⟩
section TLV
variable {cnt onc : Nat} {fp sp : Nat → Nat} {mo : Nat → Int64} {on : Nat → Bool} {rp : Nat → Nat} {rs : Nat} {rl : Int64} {rw : Nat → Nat}
theorem tl_add (hi : tl_inv cnt onc fp sp mo on rp rs rl cnt fp sp mo on rw rs rl) {x y : Int32} {c : Int64} {r1 r2 : Int32} {cnt1 onc1 : Nat} {fp1 sp1 : Nat → Nat} {mo1 : Nat → Int64} {on1 : Nat → Bool} {rp1 : Nat → Nat} {rs1 : Nat} {rl1 : Int64} {cnt2 : Nat} {fp2 sp2 : Nat → Nat} {mo2 : Nat → Int64} {on2 : Nat → Bool} {rw2 : Nat → Nat} {rs2 : Nat} {rl2 : Int64}
    (h : sp_add cnt fp sp mo on x y c r1 rp rs rl cnt1 fp1 sp1 mo1 on1 rp1 rs1 rl1) (ho : onc1 + cnt = onc + cnt1) (k : sp_add cnt fp sp mo on x y c r2 rw rs rl cnt2 fp2 sp2 mo2 on2 rw2 rs2 rl2) :
    r1 = r2 ∧ tl_inv cnt1 onc1 fp1 sp1 mo1 on1 rp1 rs1 rl1 cnt2 fp2 sp2 mo2 on2 rw2 rs2 rl2 := by
  obtain ⟨-, g, ok, hoc, hrs, hrow, hrl⟩ := hi
  rcases h with ⟨a, b, z, h1, h2, h3, h4, h5, h6, h7, h8, h9, h10⟩ | ⟨h1, h2, h3, h4, h5, h6, h7, h8, h9, h10⟩ <;> rcases k with ⟨a', b', z', k1, k2, k3, k4, k5, k6, k7, k8, k9, k10⟩ | ⟨k1, k2, k3, k4, k5, k6, k7, k8, k9, k10⟩
  · have ea := (nI_eq (by omega) (by omega)).mp (h5.symm.trans k5)
    have eb := (nI_eq (by omega) (by omega)).mp (h6.symm.trans k6)
    subst ea; subst eb
    obtain ⟨ez, e1, e2, e3, e4, e5⟩ := tl_ref h9 k9 hrs hrow hrl
    subst ez; subst e1; subst e2
    rcases h10 with ⟨q1, q2, rfl, rfl, rfl, rfl, rfl⟩ | ⟨q1, q2, rfl, rfl, rfl, rfl, rfl⟩ <;> rcases k10 with ⟨w1, w2, rfl, rfl, rfl, rfl, rfl⟩ | ⟨w1, w2, rfl, rfl, rfl, rfl, rfl⟩
    · exact ⟨q2.trans w2.symm, ⟨rfl, rfl, rfl, rfl, rfl, rfl, rfl⟩, g, ok, by omega, e3, e4, e5⟩
    · exact absurd (q1.symm.trans w1) (by decide)
    · exact absurd (q1.symm.trans w1) (by decide)
    · have hno : ∀ n L, tn_wk (tn_E cnt fp sp mo on) n b a L → 0 ≤ L + c.toInt := by
        rcases h9 with ⟨_, _, _, _, _, q, _⟩ | ⟨q, _⟩
        · exact absurd (q.symm.trans q1) (by decide)
        · exact q
      refine ⟨q2.trans w2.symm, ⟨rfl, rfl, rfl, rfl, rfl, rfl, rfl⟩, ⟨by omega, fun k hk => ?_⟩, tn_ok_mono tl_E_add (tn_add_ok ok hno), ?_, e3, e4, e5⟩
      · by_cases hkc : k = cnt
        · subst hkc
          simp only [va_up, vp_updL, if_true]
          exact ⟨h2, h3, h7, h8⟩
        · simp only [va_up, vp_updL, hkc, if_false]
          exact g.2 k (by omega)
      · rw [tn_cn, tn_cn_far (Nat.le_refl _)]
        simp [va_up]; omega
  · exact absurd h8 (k1 h1 a b h2 h3 h4 h5 h6 h7)
  · exact absurd k8 (h1 k1 a' b' k2 k3 k4 k5 k6 k7)
  · subst h3; subst h4; subst h5; subst h6; subst h7; subst h8; subst h9; subst h10
    subst k3; subst k4; subst k5; subst k6; subst k7; subst k8; subst k9; subst k10
    exact ⟨h2.trans k2.symm, ⟨rfl, rfl, rfl, rfl, rfl, rfl, rfl⟩, g, ok, by omega, hrs, hrow, hrl⟩
theorem tl_off (hi : tl_inv cnt onc fp sp mo on rp rs rl cnt fp sp mo on rw rs rl) {x r1 r2 : Int32} {onc1 : Nat} {on1 on2 : Nat → Bool} (h : sp_off cnt on x r1 on1) (ho : onc1 = tn_cn on1 cnt) (k : sp_off cnt on x r2 on2) : r1 = r2 ∧ tl_inv cnt onc1 fp sp mo on1 rp rs rl cnt fp sp mo on2 rw rs rl := by
  obtain ⟨-, g, ok, hoc, hrs, hrow, hrl⟩ := hi
  have hg := g.1
  rcases h with ⟨a, h1, h2, h3, h4, h5⟩ | ⟨h1, h2, h3⟩ <;> rcases k with ⟨a', k1, k2, k3, k4, k5⟩ | ⟨k1, k2, k3⟩
  · have ea := (nI_eq (by omega) (by omega)).mp (h2.symm.trans k2)
    subst ea; subst h5; subst k5
    exact ⟨h4.trans k4.symm, ⟨rfl, rfl, rfl, rfl, rfl, rfl, rfl⟩, g, tn_ok_mono tl_E_off ok, ho, hrs, hrow, hrl⟩
  · exact absurd (h3.symm.trans (k1 a h1 h2)) (by decide)
  · exact absurd (k3.symm.trans (h1 a' k1 k2)) (by decide)
  · subst h3; subst k3
    exact ⟨h2.trans k2.symm, ⟨rfl, rfl, rfl, rfl, rfl, rfl, rfl⟩, g, ok, ho, hrs, hrow, hrl⟩
theorem tl_on (hi : tl_inv cnt onc fp sp mo on rp rs rl cnt fp sp mo on rw rs rl) {x r1 r2 : Int32} {onc1 : Nat} {on1 on2 : Nat → Bool} {rp1 rw2 : Nat → Nat} {rs1 rs2 : Nat} {rl1 rl2 : Int64} (h : sp_on cnt fp sp mo on x r1 rp rs rl on1 rp1 rs1 rl1) (ho : onc1 = tn_cn on1 cnt) (k : sp_on cnt fp sp mo on x r2 rw rs rl on2 rw2 rs2 rl2) : r1 = r2 ∧ tl_inv cnt onc1 fp sp mo on1 rp1 rs1 rl1 cnt fp sp mo on2 rw2 rs2 rl2 := by
  obtain ⟨-, g, ok, hoc, hrs, hrow, hrl⟩ := hi
  have hg := g.1
  rcases h with ⟨a, z, h1, h2, h3, h9, h10⟩ | ⟨h1, h2, h3, h4, h5, h6⟩ <;> rcases k with ⟨a', z', k1, k2, k3, k9, k10⟩ | ⟨k1, k2, k3, k4, k5, k6⟩
  · have ea := (nI_eq (by omega) (by omega)).mp (h2.symm.trans k2)
    subst ea
    obtain ⟨ez, e1, e2, e3, e4, e5⟩ := tl_ref h9 k9 hrs hrow hrl
    subst ez; subst e1; subst e2
    rcases h10 with ⟨q1, q2, rfl⟩ | ⟨q1, q2, rfl⟩ <;> rcases k10 with ⟨w1, w2, rfl⟩ | ⟨w1, w2, rfl⟩
    · exact ⟨q2.trans w2.symm, ⟨rfl, rfl, rfl, rfl, rfl, rfl, rfl⟩, g, ok, ho, e3, e4, e5⟩
    · exact absurd (q1.symm.trans w1) (by decide)
    · exact absurd (q1.symm.trans w1) (by decide)
    · have hno : ∀ n L, tn_wk (tn_E cnt fp sp mo on) n (sp a) (fp a) L → 0 ≤ L + (mo a).toInt := by
        rcases h9 with ⟨_, _, _, _, _, q, _⟩ | ⟨q, _⟩
        · exact absurd (q.symm.trans q1) (by decide)
        · exact q
      exact ⟨q2.trans w2.symm, ⟨rfl, rfl, rfl, rfl, rfl, rfl, rfl⟩, g, tn_ok_mono tl_E_on (tn_add_ok ok hno), ho, e3, e4, e5⟩
  · exact absurd (h3.symm.trans (k1 a h1 h2)) (by decide)
  · exact absurd (k3.symm.trans (h1 a' k1 k2)) (by decide)
  · subst h3; subst h4; subst h5; subst h6; subst k3; subst k4; subst k5; subst k6
    exact ⟨h2.trans k2.symm, ⟨rfl, rfl, rfl, rfl, rfl, rfl, rfl⟩, g, ok, ho, hrs, hrow, hrl⟩
theorem tl_steps {E : Nat → Nat → Int → Prop} {x y r1 r2 : Int32} (h : sp_steps E x y r1) (k : sp_steps E x y r2) : r1 = r2 := by
  rcases h with ⟨a, b, L, n, h1, h2, h3, h4, h5, h6⟩ | ⟨h1, h2⟩ <;> rcases k with ⟨a', b', L', n', k1, k2, k3, k4, k5, k6⟩ | ⟨k1, k2⟩
  · have ea := (nI_eq (by omega) (by omega)).mp (h3.symm.trans k3)
    have eb := (nI_eq (by omega) (by omega)).mp (h4.symm.trans k4)
    subst ea; subst eb
    rw [h6, k6, (tn_best_eq h5 k5).2]
  · exact absurd h5.1 (k1 a b h1 h2 h3 h4 _ _)
  · exact absurd k5.1 (h1 a' b' k1 k2 k3 k4 _ _)
  · rw [h2, k2]
theorem tl_path (hi : tl_inv cnt onc fp sp mo on rp rs rl cnt fp sp mo on rw rs rl) {x y r1 r2 : Int32} {rp1 rw2 : Nat → Nat} {rs1 rs2 : Nat} {rl1 rl2 : Int64} (h : sp_path (tn_E cnt fp sp mo on) x y r1 rp rs rl rp1 rs1 rl1) (k : sp_path (tn_E cnt fp sp mo on) x y r2 rw rs rl rw2 rs2 rl2) : r1 = r2 ∧ tl_inv cnt onc fp sp mo on rp1 rs1 rl1 cnt fp sp mo on rw2 rs2 rl2 := by
  obtain ⟨-, g, ok, hoc, hrs, hrow, hrl⟩ := hi
  rcases h with ⟨a, b, L, n, h1, h2, h3, h4, h5, h6, h7, h8, h9, h10⟩ | ⟨h1, h2, h3, h4, h5⟩ <;> rcases k with ⟨a', b', L', n', k1, k2, k3, k4, k5, k6, k7, k8, k9, k10⟩ | ⟨k1, k2, k3, k4, k5⟩
  · have ea := (nI_eq (by omega) (by omega)).mp (h3.symm.trans k3)
    have eb := (nI_eq (by omega) (by omega)).mp (h4.symm.trans k4)
    subst ea; subst eb
    obtain ⟨e1, e2⟩ := tn_best_eq h5 k5
    subst e1; subst e2
    refine ⟨h7.trans k7.symm, ⟨rfl, rfl, rfl, rfl, rfl, by omega, Int64.toInt_inj.mp (k10.trans h10.symm)⟩, g, ok, hoc, by omega, fun z hz => ?_, fun q => absurd q (by omega)⟩
    have := tn_bp_eq h9 k9 z (by omega)
    rw [Nat.zero_add] at this; exact this
  · exact absurd h5.1 (k1 a b h1 h2 h3 h4 _ _)
  · exact absurd k5.1 (h1 a' b' k1 k2 k3 k4 _ _)
  · subst h3; subst h4; subst h5; subst k3; subst k4; subst k5
    exact ⟨h2.trans k2.symm, ⟨rfl, rfl, rfl, rfl, rfl, rfl, rfl⟩, g, ok, hoc, hrs, hrow, hrl⟩
theorem tl_rowAt (hi : tl_inv cnt onc fp sp mo on rp rs rl cnt fp sp mo on rw rs rl) {x r1 r2 : Int32} (h : sp_rowAt rp rs x r1) (k : sp_rowAt rw rs x r2) : r1 = r2 := by
  obtain ⟨-, g, ok, hoc, hrs, hrow, hrl⟩ := hi
  rcases h with ⟨a, h1, h2, h3⟩ | ⟨h1, h2⟩ <;> rcases k with ⟨a', k1, k2, k3⟩ | ⟨k1, k2⟩
  · have ea := (nI_eq (by omega) (by omega)).mp (h2.symm.trans k2)
    subst ea
    rw [h3, k3, hrow a h1]
  · exact absurd h2 (k1 a h1)
  · exact absurd k2 (h1 a' k1)
  · rw [h2, k2]
theorem tl_length (hi : tl_inv cnt onc fp sp mo on rp rs rl cnt fp sp mo on rw rs rl) {r1 r2 : Int64} (h : r1 = rl) (k : (rs = 0 ∧ r2 = 0) ∨ (rs ≠ 0 ∧ r2 = rl)) : r1 = r2 := by
  rcases k with ⟨k1, k2⟩ | ⟨-, k2⟩
  · rw [h, k2]; exact hi.2.2.2.2.2.2 k1
  · rw [h, k2]
theorem tl_slack (hc : cnt ≤ 120) {x : Int32} {r1 r2 : Int64} (h : sp_slack cnt fp sp mo on x r1) (k : sp_slack cnt fp sp mo on x r2) : r1 = r2 := by
  rcases h with ⟨a, L, n, h1, h2, h3, h4, h5⟩ | ⟨h1, h2⟩ <;> rcases k with ⟨a', L', n', k1, k2, k3, k4, k5⟩ | ⟨k1, k2⟩
  · have ea := (nI_eq (by omega) (by omega)).mp (h2.symm.trans k2)
    subst ea
    have e := (tn_best_eq h4 k4).1
    exact Int64.toInt_inj.mp (by rw [h5, k5, e])
  · exact absurd (h3.symm.trans (k1 a h1 h2)) (by decide)
  · exact absurd (k3.symm.trans (h1 a' k1 k2)) (by decide)
  · rw [h2, k2]
end TLV
theorem tl_bound1 {E : Nat → Nat → Int → Prop} {a b : Nat} {r1 r2 : Int64} (h : sp_bound E a b r1) (k : sp_bound E a b r2) : r1 = r2 := by
  rcases h with ⟨L, n, h1, h2⟩ | ⟨h1, h2⟩ <;> rcases k with ⟨L', n', k1, k2⟩ | ⟨k1, k2⟩
  · exact Int64.toInt_inj.mp (by rw [h2, k2, (tn_best_eq h1 k1).1])
  · exact absurd h1.1 (k1 _ _)
  · exact absurd k1.1 (h1 _ _)
  · rw [h2, k2]
theorem tl_earl1 {E : Nat → Nat → Int → Prop} {a : Nat} {r1 r2 : Int64} (h : sp_earl E a r1) (k : sp_earl E a r2) : r1 = r2 := by
  rcases h with ⟨L, n, h1, h2⟩ | ⟨h1, h2⟩ <;> rcases k with ⟨L', n', k1, k2⟩ | ⟨k1, k2⟩
  · exact Int64.toInt_inj.mp (by rw [h2, k2, (tn_best_eq h1 k1).1])
  · exact absurd h1.1 (k1 _ _)
  · exact absurd k1.1 (h1 _ _)
  · rw [h2, k2]
/-- bound: class by the law's helper, and reference -/
theorem tl_bound {E : Nat → Nat → Int → Prop} {x y : Int32} {kk : Int32} {o r : Int64} {th : Nat} (h : (∃ a b, a < 20 ∧ b < 20 ∧ x = nI a ∧ y = nI b ∧ kk = nI 0 ∧ sp_bound E a b o) ∨ ((∀ a b, a < 20 → b < 20 → ¬ (x = nI a ∧ y = nI b)) ∧ kk = nI 1)) (k : (∃ a b, a < 20 ∧ b < 20 ∧ x = nI a ∧ y = nI b ∧ th = 0 ∧ sp_bound E a b r) ∨ ((∀ a b, a < 20 → b < 20 → ¬ (x = nI a ∧ y = nI b)) ∧ th = 1)) : nI th = kk ∧ (kk = 0 → o = r) := by
  rcases h with ⟨a, b, h1, h2, h3, h4, h5, h6⟩ | ⟨h1, h2⟩ <;> rcases k with ⟨a', b', k1, k2, k3, k4, k5, k6⟩ | ⟨k1, k2⟩
  · have ea := (nI_eq (by omega) (by omega)).mp (h3.symm.trans k3)
    have eb := (nI_eq (by omega) (by omega)).mp (h4.symm.trans k4)
    subst ea; subst eb
    exact ⟨by rw [h5, k5], fun _ => tl_bound1 h6 k6⟩
  · exact absurd ⟨h3, h4⟩ (k1 a b h1 h2)
  · exact absurd ⟨k3, k4⟩ (h1 a' b' k1 k2)
  · exact ⟨by rw [h2, k2], fun q => absurd (h2.symm.trans q) (by decide)⟩
theorem tl_earl {E : Nat → Nat → Int → Prop} {x : Int32} {kk : Int32} {o r : Int64} {th : Nat} (h : (∃ a, a < 20 ∧ x = nI a ∧ kk = nI 0 ∧ sp_earl E a o) ∨ ((∀ a, a < 20 → ¬ x = nI a) ∧ kk = nI 1)) (k : (∃ a, a < 20 ∧ x = nI a ∧ th = 0 ∧ sp_earl E a r) ∨ ((∀ a, a < 20 → ¬ x = nI a) ∧ th = 1)) : nI th = kk ∧ (kk = 0 → o = r) := by
  rcases h with ⟨a, h1, h3, h5, h6⟩ | ⟨h1, h2⟩ <;> rcases k with ⟨a', k1, k3, k5, k6⟩ | ⟨k1, k2⟩
  · have ea := (nI_eq (by omega) (by omega)).mp (h3.symm.trans k3)
    subst ea
    exact ⟨by rw [h5, k5], fun _ => tl_earl1 h6 k6⟩
  · exact absurd h3 (k1 a h1)
  · exact absurd k3 (h1 a' k1)
  · exact ⟨by rw [h2, k2], fun q => absurd (h2.symm.trans q) (by decide)⟩
theorem tl_inv_0 : tl_inv 0 0 (fun _ => 0) (fun _ => 0) (fun _ => 0) (fun _ => false) (fun _ => 0) 0 0 0 (fun _ => 0) (fun _ => 0) (fun _ => 0) (fun _ => false) (fun _ => 0) 0 0 := by
  refine ⟨⟨rfl, rfl, rfl, rfl, rfl, rfl, rfl⟩, ⟨by omega, fun k hk => absurd hk (by omega)⟩, ?_, rfl, by omega, fun _ _ => rfl, fun _ => rfl⟩
  intro n i L w
  cases n with
  | zero => rw [w.2]; exact Int.le_refl 0
  | succ n =>
    obtain ⟨q, c, ⟨k, hk, _⟩, _⟩ := w
    exact absurd hk (by omega)
theorem tl_rot {A : Nat → Prop} {a b c : va_W} (h : va_D A (a ++ (b ++ c))) : va_D A ((a ++ c) ++ b) := by
  have hbc := tn_D_swap (tn_D_r h)
  have h2 : va_D A (a ++ (c ++ b)) := (tn_D_l h).app hbc (fun i j p q hi hj he => by
    rcases tn_app_get hj with ⟨-, hj⟩ | ⟨-, hj⟩
    · exact tn_D_x h i (b.length + (j)) p q hi (by rw [List.getElem?_append_right (by omega), show b.length + j - b.length = j by omega]; exact hj) he
    · exact tn_D_x h i (j - c.length) p q hi (by rw [List.getElem?_append_left (List.getElem?_eq_some_iff.mp hj).1]; exact hj) he)
  rw [List.append_assoc]; exact h2
theorem tl_rot' {A : Nat → Prop} {a b c : va_W} (h : va_D A ((a ++ c) ++ b)) : va_D A (a ++ (b ++ c)) := by
  rw [List.append_assoc] at h
  have := tl_rot h
  rw [List.append_assoc] at this; exact this
end
section
/-! THE CLAIM OUT OF ONE WALK OF THE LAW'S BODY. Your part is whole_start (and what it stands on); all else here is the same for every law, but numbers. -/
def R_law : String := "TimeNetLaw"
def lw_P (b : Addr) (xs : List Int32) (args : Array Value) (s : State) : Prop := args = #[.ref b] ∧ s.IntsAt b xs ∧ xs.length ≤ 2560 ∧ (Jvm.Cond.and given_1 narrow_1).before args s = true
def lw_Q (_ : Array Value) (s : State) (o : Outcome) (t : State) : Prop := o = .returned (some (.int 1)) ∧ Framed s o t [] 1042 9693
def lw_Z (below : List Frame) (a : Array Value) (s : State) : State → Prop := fun t => ∃ o, t.status = .running ∧ Ended t below o ∧ lw_Q a s o t
/-- the law's own end, with 1 on the stack, nothing written that was there before, its room as the claim has it -/
theorem lw_ret {p : Program} {l : Launch} {e : Env} {s : State} {m : MethodId} {below : List Frame} {meth : Method} {c : Code} {b : Nat} (hx : p.tables.exec = Jvm.exec) (hb : c.code = code) (hr : meth.sig.returnType = ret) (hlocks : meth.locks = false) {pc : Nat} {H : Heap} {ls : Array Slot} (hdg : decode code pc = .ok (.ireturn, 1)) : W p l e room_1 s m #[Value.ref b] below meth c H [] 1042 9693 (lw_Z below #[Value.ref b] s) (F0 m pc ls [.int 1]) := by
  intro T hT X
  obtain ⟨fs, hret, hrun, hended, hW, hframe⟩ := X.leave (v := some (.int 1)) (hlocks := hlocks) (fun h => by rw [hr] at h; cases h)
  have hmeth' : T.vm.method? m = some meth := X.method'
  refine ⟨T.setFrames fs, ?_, .returned (some (.int 1)), hrun, hended, rfl, ⟨_, rfl⟩, hW, hframe⟩
  jvm_step X.here [X.here.top, hx, hb, hdg, hmeth', hr, ret, narrow_b1]
  (try refine ⟨rfl, ?_⟩); (try refine ⟨rfl, ?_⟩)
  first | (intro acts; rw [hret _ acts rfl rfl rfl]) | rw [hret _ _ rfl rfl rfl]
  exact Steps.refl _
/-- what holds at the law's entry: the machine, the code, the tables' words (any of lw_tbl by 'hts w (by decide +kernel)'), the script of L ints xs at the cell b, what the Statement gives of the start (any of its parts by flat_of_before) -/
def lw_At (p : Program) (s : State) (m : MethodId) (meth : Method) (c : Code) (b L : Nat) (xs : Nat → Int32) : Prop :=
  p.tables.exec = Jvm.exec ∧ c.code = code ∧ meth.sig.returnType = ret ∧ c.maxLocals = 8 ∧ s.vm.findClass R_law = some m.cls ∧ (∀ w ∈ lw_tbl, w.before #[Value.ref b] s = true) ∧ va_X b L xs s s.heap ∧ b < s.heap.size ∧ meth.locks = false ∧ (Jvm.Cond.and given_1 narrow_1).before #[Value.ref b] s = true
/-- the law at pc with q calls behind it: both objects in one state; it comes to its end -/
def tl_K (p : Program) (l : Launch) (e : Env) (s : State) (m : MethodId) (below : List Frame) (meth : Method) (c : Code) (b : Nat) (dC : Nat → ClassId) (dI : Nat → Nat → Nat) (h a1 a2 a3 a4 a5 a6 a7 k0 b1 b2 b3 b4 b5 b6 ao : Nat) (cI cL cZ : ClassId) (q pc cells slots : Nat) : Prop :=
  ∀ (cnt onc : Nat) (fp sp : Nat → Nat) (mo : Nat → Int64) (on : Nat → Bool) (lf : Nat → Int64) (sf : Nat → Int32) (rp : Nat → Nat) (rs : Nat) (rl : Int64) (th cnt2 : Nat) (fp2 sp2 : Nat → Nat) (mo2 : Nat → Int64) (on2 : Nat → Bool) (rs2 : Nat) (rw : Nat → Nat) (rl2 : Int64) (le : Nat → Int64) (bl : Int64) (bs : Int32) (ov : Nat → Int64) (H : Heap) (locs : List Loc) (ls : Array Slot), tl_inv cnt onc fp sp mo on rp rs rl cnt2 fp2 sp2 mo2 on2 rw rs2 rl2 → va_P (dC, dI) vwCl (tn_ws h a1 a2 a3 a4 a5 a6 a7 cI cL cZ cnt onc fp sp mo on lf sf rp rs rl) H → va_P (dC, dI) vwCl (tm_ws k0 b1 b2 b3 b4 b5 b6 cI cL cZ th cnt2 fp2 sp2 mo2 on2 rs2 rw rl2 le bl bs) H → va_P (dC, dI) vwCl [(ao, .inl (cL, 1, .inr (.inl ov)))] H → va_D (fun q : Nat => s.heap.size ≤ q) ((tn_ws h a1 a2 a3 a4 a5 a6 a7 cI cL cZ cnt onc fp sp mo on lf sf rp rs rl) ++ ((tm_ws k0 b1 b2 b3 b4 b5 b6 cI cL cZ th cnt2 fp2 sp2 mo2 on2 rs2 rw rl2 le bl bs) ++ [(ao, .inl (cL, 1, .inr (.inl ov)))])) → va_S (fun q : Nat => s.heap.size ≤ q) s.heap H locs → lv_has ls 8 [(0, .ref b), (1, .ref h), (2, .ref k0), (3, .ref ao), (4, .int (nI (5 * q)))] → W p l e room_1 s m #[Value.ref b] below meth c H locs cells slots (lw_Z below #[Value.ref b] s) (F0 m pc ls [])
/-- what the law has from its start on -/
def tl_C (p : Program) (l : Launch) (s : State) (m : MethodId) (meth : Method) (c : Code) (b L : Nat) (xs : Nat → Int32) (dC : Nat → ClassId) (dI : Nat → Nat → Nat) (cI cL cZ : ClassId) : Prop :=
  lw_At p s m meth c b L xs ∧ va_K (dC, dI) vwCl (tn_tys cI cL cZ) s ∧ tn_face s ∧ tn_Zs (fun q : Nat => s.heap.size ≤ q) s s.heap ∧ l.stackTraces = false ∧ L ≤ 2560
theorem tn_sld {p : Program} {l : Launch} {e : Env} {R : Room} {s : State} {m : MethodId} {args : Array Value} {below : List Frame} {meth : Method} {c : Code} {H H0 : Heap} {locs : List Loc} {cells slots : Nat} {Q : State → Prop} {cc : ByteArray} {pc : Nat} {ls : Array Slot} {rest : List Value} {A : Nat → Prop} (hx : p.tables.exec = Jvm.exec) (hb : c.code = cc) {b L : Nat} {xs : Nat → Int32} (hX : va_X b L xs s H0) (hbl : b < H0.size) (hbA : ¬ A b) (hS : va_S A H0 H locs) {i : Nat} (hi : i < L) (hL : L < 2 ^ 31) (hdg : decode cc pc = .ok (.iaload, 1))
    (kk : W p l e R s m args below meth c H locs cells slots Q (F0 m (pc + 1) ls (.int (xs i) :: rest))) : W p l e R s m args below meth c H locs cells slots Q (F0 m pc ls (.int (nI i) :: .ref b :: rest)) := by
  refine va_sld hx hb hX hbl hbA hS (vp_in_nI hi hL) hdg ?_
  rw [nI_clamp (by omega)]; exact kk
end
section
set_option maxHeartbeats 4000000 in
set_option maxRecDepth 100000 in
theorem law_c0 {p : Program} {l : Launch} {e : Env} {s : State} {m : MethodId} {below : List Frame} {meth : Method} {c : Code} {b L : Nat} {xs : Nat → Int32} {dC : Nat → ClassId} {dI : Nat → Nat → Nat} {h a1 a2 a3 a4 a5 a6 a7 k0 b1 b2 b3 b4 b5 b6 ao : Nat} {cI cL cZ : ClassId} (C : tl_C p l s m meth c b L xs dC dI cI cL cZ) {q : Nat} (hq : 5 * q + 5 ≤ L) (K : tl_K p l e s m below meth c b dC dI h a1 a2 a3 a4 a5 a6 a7 k0 b1 b2 b3 b4 b5 b6 ao cI cL cZ q 518 (16 + (q + 1)) (1489 + 6 * (q + 1))) : tl_K p l e s m below meth c b dC dI h a1 a2 a3 a4 a5 a6 a7 k0 b1 b2 b3 b4 b5 b6 ao cI cL cZ q 100 (16 + q) (1489 + 6 * q) := by
  obtain ⟨C0, hK, hfc, hZs, hst, hL⟩ := C
  obtain ⟨hx, hb, hr, hml, hown, hts0, hX, hbl, hlocks, hgv⟩ := C0
  have hts := fun w h => hts0 w (wsL_law_in w h)
  have hown : s.vm.findClass RL = some m.cls := hown
  have hA : ∀ q : Nat, s.heap.size ≤ q → (fun q : Nat => s.heap.size ≤ q) q := fun _ h => h
  have hbA : ¬ (fun q : Nat => s.heap.size ≤ q) b := Nat.not_le.mpr hbl
  have kc23 := hts (.constantLong RL 23 (4294967295)) (by decide +kernel)
  intro cnt onc fp sp mo on lf sf rp rs rl th cnt2 fp2 sp2 mo2 on2 rs2 rw rl2 le bl bs ov H locs ls hinv hPx hPm hPo hD hS hl
  obtain ⟨⟨e1, e2, e3, e4, e5, e6, e7⟩, -⟩ := id hinv
  have e1 := e1.symm
  subst e1
  have e2 := e2.symm
  subst e2
  have e3 := e3.symm
  subst e3
  have e4 := e4.symm
  subst e4
  have e5 := e5.symm
  subst e5
  have e6 := e6.symm
  subst e6
  have e7 := e7.symm
  subst e7
  obtain ⟨-, g, ok, hoc, hrs, hrow, hrl⟩ := id hinv
  refine lv_aload_n hx hb dL_law_100 rfl (lv_at hl 1 rfl) ?_
  refine lv_aload_n hx hb dL_law_101 rfl (lv_at hl 0 rfl) ?_
  refine lv_iload hx hb dL_law_102 (lv_at hl 4 rfl) ?_
  refine lv_iconst (v := nI 1) hx hb dL_law_104 (by decide) ?_
  refine tn_iadd (a := (5 * q)) (b := 1) hx hb dL_law_105 ?_
  refine tn_sld (i := ((5 * q) + 1)) hx hb hX hbl hbA hS (by omega) (by omega) dL_law_106 ?_
  refine lv_aload_n hx hb dL_law_107 rfl (lv_at hl 0 rfl) ?_
  refine lv_iload hx hb dL_law_108 (lv_at hl 4 rfl) ?_
  refine lv_iconst (v := nI 2) hx hb dL_law_110 (by decide) ?_
  refine tn_iadd (a := (5 * q)) (b := 2) hx hb dL_law_111 ?_
  refine tn_sld (i := ((5 * q) + 2)) hx hb hX hbl hbA hS (by omega) (by omega) dL_law_112 ?_
  refine lv_aload_n hx hb dL_law_113 rfl (lv_at hl 0 rfl) ?_
  refine lv_iload hx hb dL_law_114 (lv_at hl 4 rfl) ?_
  refine lv_iconst (v := nI 3) hx hb dL_law_116 (by decide) ?_
  refine tn_iadd (a := (5 * q)) (b := 3) hx hb dL_law_117 ?_
  refine tn_sld (i := ((5 * q) + 3)) hx hb hX hbl hbA hS (by omega) (by omega) dL_law_118 ?_
  refine lv_i2l hx hb dL_law_119 rfl ?_
  refine lv_bipush (v := nI 32) hx hb dL_law_120 (by decide) ?_
  refine lv_lshl hx hb dL_law_122 rfl ?_
  refine lv_aload_n hx hb dL_law_123 rfl (lv_at hl 0 rfl) ?_
  refine lv_iload hx hb dL_law_124 (lv_at hl 4 rfl) ?_
  refine lv_iconst (v := nI 4) hx hb dL_law_126 (by decide) ?_
  refine tn_iadd (a := (5 * q)) (b := 4) hx hb dL_law_127 ?_
  refine tn_sld (i := ((5 * q) + 4)) hx hb hX hbl hbA hS (by omega) (by omega) dL_law_128 ?_
  refine lv_i2l hx hb dL_law_129 rfl ?_
  refine lv_ldc2 (v := 4294967295) hx hb hown kc23 dL_law_130 ?_
  refine lv_land hx hb dL_law_133 ?_
  refine lv_lor hx hb dL_law_134 ?_
  have hDc := hD
  have hF := tn_freeA (tn_D_l hDc) hS hA
  refine va_calli (va_runV (As := [.int (xs ((5 * q) + 1)), .int (xs ((5 * q) + 2)), .long ((((xs ((5 * q) + 3)).toInt64) <<< ((nI 32).toInt64 &&& 63)) ||| (((xs ((5 * q) + 4)).toInt64) &&& 4294967295))]) (rest := []) ⟨hx, hb, hml, hown, hts⟩ (cX0_add_ok l dC dI h a1 a2 a3 a4 a5 a6 a7 cI cL cZ cnt onc fp sp mo on lf sf rp rs rl H.size g ok (xs (5 * q + 1)) (xs (5 * q + 2)) (((xs (5 * q + 3)).toInt64 <<< ((nI 32).toInt64 &&& 63)) ||| ((xs (5 * q + 4)).toInt64 &&& 4294967295))) (cwV 3 hts gL_law_X0_add rfl rfl rfl (by decide +kernel) ⟨Nat.le_of_ble_eq_true rfl, Nat.le_of_ble_eq_true rfl⟩) (tn_preV hK hPx (tn_D_l hDc) (ci := 0) rfl 0 rfl) rfl rfl hl.1 rfl (lv_room (Nat.le_of_ble_eq_true rfl)) dL_law_135 ⟨by show 16 + q + 0 ≤ 1042; omega, by show 1489 + 6 * q + 0 ≤ 9693; omega⟩) hS (fun q _ h => hF q h) hF (fun r_135 u_135 t H1 locs ht hvm hw_135 hB hz1 hk1 hS => ?_)
  obtain ⟨hPx, -, hD1⟩ := hB
  rw [ht] at hPx
  obtain ⟨hR, hD⟩ := tn_side (va_P.app hPm hPo) hDc hk1 hF hD1
  have hPm := tn_P_l hR
  have hPo := tn_P_r hR
  refine W.cs (cells' := 16 + q) (slots' := 1489 + 6 * q) (Nat.add_zero _) (Nat.add_zero _) ?_
  clear hDc hF hz1 hk1 hD1 ht hvm
  clear hR
  generalize H1 = H at hPx hPm hPo hS ⊢
  refine lv_aload_n hx hb dL_law_138 rfl (lv_at hl 2 rfl) ?_
  refine lv_aload_n hx hb dL_law_139 rfl (lv_at hl 0 rfl) ?_
  refine lv_iload hx hb dL_law_140 (lv_at hl 4 rfl) ?_
  refine lv_iconst (v := nI 1) hx hb dL_law_142 (by decide) ?_
  refine tn_iadd (a := (5 * q)) (b := 1) hx hb dL_law_143 ?_
  refine tn_sld (i := ((5 * q) + 1)) hx hb hX hbl hbA hS (by omega) (by omega) dL_law_144 ?_
  refine lv_aload_n hx hb dL_law_145 rfl (lv_at hl 0 rfl) ?_
  refine lv_iload hx hb dL_law_146 (lv_at hl 4 rfl) ?_
  refine lv_iconst (v := nI 2) hx hb dL_law_148 (by decide) ?_
  refine tn_iadd (a := (5 * q)) (b := 2) hx hb dL_law_149 ?_
  refine tn_sld (i := ((5 * q) + 2)) hx hb hX hbl hbA hS (by omega) (by omega) dL_law_150 ?_
  refine lv_aload_n hx hb dL_law_151 rfl (lv_at hl 0 rfl) ?_
  refine lv_iload hx hb dL_law_152 (lv_at hl 4 rfl) ?_
  refine lv_iconst (v := nI 3) hx hb dL_law_154 (by decide) ?_
  refine tn_iadd (a := (5 * q)) (b := 3) hx hb dL_law_155 ?_
  refine tn_sld (i := ((5 * q) + 3)) hx hb hX hbl hbA hS (by omega) (by omega) dL_law_156 ?_
  refine lv_i2l hx hb dL_law_157 rfl ?_
  refine lv_bipush (v := nI 32) hx hb dL_law_158 (by decide) ?_
  refine lv_lshl hx hb dL_law_160 rfl ?_
  refine lv_aload_n hx hb dL_law_161 rfl (lv_at hl 0 rfl) ?_
  refine lv_iload hx hb dL_law_162 (lv_at hl 4 rfl) ?_
  refine lv_iconst (v := nI 4) hx hb dL_law_164 (by decide) ?_
  refine tn_iadd (a := (5 * q)) (b := 4) hx hb dL_law_165 ?_
  refine tn_sld (i := ((5 * q) + 4)) hx hb hX hbl hbA hS (by omega) (by omega) dL_law_166 ?_
  refine lv_i2l hx hb dL_law_167 rfl ?_
  refine lv_ldc2 (v := 4294967295) hx hb hown kc23 dL_law_168 ?_
  refine lv_land hx hb dL_law_171 ?_
  refine lv_lor hx hb dL_law_172 ?_
  have hDc := tn_D_swap hD
  rw [List.append_assoc] at hDc
  have hF := tn_freeA (tn_D_l hDc) hS hA
  refine va_calli (va_runV (As := [.int (xs ((5 * q) + 1)), .int (xs ((5 * q) + 2)), .long ((((xs ((5 * q) + 3)).toInt64) <<< ((nI 32).toInt64 &&& 63)) ||| (((xs ((5 * q) + 4)).toInt64) &&& 4294967295))]) (rest := [.int r_135]) ⟨hx, hb, hml, hown, hts⟩ (cX1_add_ok l dC dI k0 b1 b2 b3 b4 b5 b6 cI cL cZ th cnt fp sp mo on rs rw rl le bl bs H.size g ok (xs (5 * q + 1)) (xs (5 * q + 2)) (((xs (5 * q + 3)).toInt64 <<< ((nI 32).toInt64 &&& 63)) ||| ((xs (5 * q + 4)).toInt64 &&& 4294967295))) (cwV 3 hts gL_law_X1_add rfl rfl rfl (by decide +kernel) ⟨Nat.le_of_ble_eq_true rfl, Nat.le_of_ble_eq_true rfl⟩) (tn_preV hK hPm (tn_D_l hDc) (ci := 1) rfl 0 rfl) rfl rfl hl.1 rfl (lv_room (Nat.le_of_ble_eq_true rfl)) dL_law_173 ⟨by show 16 + q + 0 ≤ 1042; omega, by show 1489 + 6 * q + 0 ≤ 9693; omega⟩) hS (fun q _ h => hF q h) hF (fun r_173 u_173 t H1 locs ht hvm hw_173 hB hz1 hk1 hS => ?_)
  obtain ⟨hPm, -, hD1⟩ := hB
  rw [ht] at hPm
  obtain ⟨hR, hD9⟩ := tn_side (va_P.app hPo hPx) hDc hk1 hF hD1
  have hPo := tn_P_l hR
  have hPx := tn_P_r hR
  rw [← List.append_assoc] at hD9
  have hD := tn_D_swap hD9
  refine W.cs (cells' := 16 + q) (slots' := 1489 + 6 * q) (Nat.add_zero _) (Nat.add_zero _) ?_
  clear hDc hF hz1 hk1 hD1 ht hvm
  clear hR
  generalize H1 = H at hPx hPm hPo hS ⊢
  refine lv_icmp_eq (tgt := 518) hx hb dL_law_176 (by decide) (fun c_176 => ?_) (fun c_176 => ?_)
  · skip
    refine W.widen (k := 16 + (q + 1)) (n := 1489 + 6 * (q + 1)) (by omega) (by omega) ?_
    exact K _ _ _ _ _ _ _ _ _ _ _ _ _ _ _ _ _ _ _ _ _ _ _ _ _ _ _ (tl_add hinv hw_135.1 hw_135.2 hw_173).2 hPx hPm hPo hD hS (lv_sub hl [0, 1, 2, 3, 4] rfl)
  · skip
    exact absurd (tl_add hinv hw_135.1 hw_135.2 hw_173).1 c_176
set_option maxHeartbeats 4000000 in
set_option maxRecDepth 100000 in
theorem law_c1 {p : Program} {l : Launch} {e : Env} {s : State} {m : MethodId} {below : List Frame} {meth : Method} {c : Code} {b L : Nat} {xs : Nat → Int32} {dC : Nat → ClassId} {dI : Nat → Nat → Nat} {h a1 a2 a3 a4 a5 a6 a7 k0 b1 b2 b3 b4 b5 b6 ao : Nat} {cI cL cZ : ClassId} (C : tl_C p l s m meth c b L xs dC dI cI cL cZ) {q : Nat} (hq : 5 * q + 5 ≤ L) (K : tl_K p l e s m below meth c b dC dI h a1 a2 a3 a4 a5 a6 a7 k0 b1 b2 b3 b4 b5 b6 ao cI cL cZ q 518 (16 + (q + 1)) (1489 + 6 * (q + 1))) : tl_K p l e s m below meth c b dC dI h a1 a2 a3 a4 a5 a6 a7 k0 b1 b2 b3 b4 b5 b6 ao cI cL cZ q 181 (16 + q) (1489 + 6 * q) := by
  obtain ⟨C0, hK, hfc, hZs, hst, hL⟩ := C
  obtain ⟨hx, hb, hr, hml, hown, hts0, hX, hbl, hlocks, hgv⟩ := C0
  have hts := fun w h => hts0 w (wsL_law_in w h)
  have hown : s.vm.findClass RL = some m.cls := hown
  have hA : ∀ q : Nat, s.heap.size ≤ q → (fun q : Nat => s.heap.size ≤ q) q := fun _ h => h
  have hbA : ¬ (fun q : Nat => s.heap.size ≤ q) b := Nat.not_le.mpr hbl
  intro cnt onc fp sp mo on lf sf rp rs rl th cnt2 fp2 sp2 mo2 on2 rs2 rw rl2 le bl bs ov H locs ls hinv hPx hPm hPo hD hS hl
  obtain ⟨⟨e1, e2, e3, e4, e5, e6, e7⟩, -⟩ := id hinv
  have e1 := e1.symm
  subst e1
  have e2 := e2.symm
  subst e2
  have e3 := e3.symm
  subst e3
  have e4 := e4.symm
  subst e4
  have e5 := e5.symm
  subst e5
  have e6 := e6.symm
  subst e6
  have e7 := e7.symm
  subst e7
  obtain ⟨-, g, ok, hoc, hrs, hrow, hrl⟩ := id hinv
  refine lv_aload_n hx hb dL_law_181 rfl (lv_at hl 1 rfl) ?_
  refine lv_aload_n hx hb dL_law_182 rfl (lv_at hl 0 rfl) ?_
  refine lv_iload hx hb dL_law_183 (lv_at hl 4 rfl) ?_
  refine lv_iconst (v := nI 1) hx hb dL_law_185 (by decide) ?_
  refine tn_iadd (a := (5 * q)) (b := 1) hx hb dL_law_186 ?_
  refine tn_sld (i := ((5 * q) + 1)) hx hb hX hbl hbA hS (by omega) (by omega) dL_law_187 ?_
  have hDc := hD
  have hF := tn_freeA (tn_D_l hDc) hS hA
  refine va_calli (va_runV (As := [.int (xs ((5 * q) + 1))]) (rest := []) ⟨hx, hb, hml, hown, hts⟩ (cX0_off_ok l dC dI h a1 a2 a3 a4 a5 a6 a7 cI cL cZ cnt onc fp sp mo on lf sf rp rs rl H.size g.1 hoc (xs (5 * q + 1))) (cwV 1 hts gL_law_X0_off rfl rfl rfl (by decide +kernel) ⟨Nat.le_of_ble_eq_true rfl, Nat.le_of_ble_eq_true rfl⟩) (tn_preV hK hPx (tn_D_l hDc) (ci := 0) rfl 0 rfl) rfl rfl hl.1 rfl (lv_room (Nat.le_of_ble_eq_true rfl)) dL_law_188 ⟨by show 16 + q + 0 ≤ 1042; omega, by show 1489 + 6 * q + 0 ≤ 9693; omega⟩) hS (fun q _ h => hF q h) hF (fun r_188 u_188 t H1 locs ht hvm hw_188 hB hz1 hk1 hS => ?_)
  obtain ⟨hPx, -, hD1⟩ := hB
  rw [ht] at hPx
  obtain ⟨hR, hD⟩ := tn_side (va_P.app hPm hPo) hDc hk1 hF hD1
  have hPm := tn_P_l hR
  have hPo := tn_P_r hR
  refine W.cs (cells' := 16 + q) (slots' := 1489 + 6 * q) (Nat.add_zero _) (Nat.add_zero _) ?_
  clear hDc hF hz1 hk1 hD1 ht hvm
  clear hR
  generalize H1 = H at hPx hPm hPo hS ⊢
  refine lv_aload_n hx hb dL_law_191 rfl (lv_at hl 2 rfl) ?_
  refine lv_aload_n hx hb dL_law_192 rfl (lv_at hl 0 rfl) ?_
  refine lv_iload hx hb dL_law_193 (lv_at hl 4 rfl) ?_
  refine lv_iconst (v := nI 1) hx hb dL_law_195 (by decide) ?_
  refine tn_iadd (a := (5 * q)) (b := 1) hx hb dL_law_196 ?_
  refine tn_sld (i := ((5 * q) + 1)) hx hb hX hbl hbA hS (by omega) (by omega) dL_law_197 ?_
  have hDc := tn_D_swap hD
  rw [List.append_assoc] at hDc
  have hF := tn_freeA (tn_D_l hDc) hS hA
  refine va_calli (va_runV (As := [.int (xs ((5 * q) + 1))]) (rest := [.int r_188]) ⟨hx, hb, hml, hown, hts⟩ (cX1_off_ok l dC dI k0 b1 b2 b3 b4 b5 b6 cI cL cZ th cnt fp sp mo on rs rw rl le bl bs H.size g.1 (xs (5 * q + 1))) (cwV 1 hts gL_law_X1_off rfl rfl rfl (by decide +kernel) ⟨Nat.le_of_ble_eq_true rfl, Nat.le_of_ble_eq_true rfl⟩) (tn_preV hK hPm (tn_D_l hDc) (ci := 1) rfl 0 rfl) rfl rfl hl.1 rfl (lv_room (Nat.le_of_ble_eq_true rfl)) dL_law_198 ⟨by show 16 + q + 0 ≤ 1042; omega, by show 1489 + 6 * q + 0 ≤ 9693; omega⟩) hS (fun q _ h => hF q h) hF (fun r_198 u_198 t H1 locs ht hvm hw_198 hB hz1 hk1 hS => ?_)
  obtain ⟨hPm, -, hD1⟩ := hB
  rw [ht] at hPm
  obtain ⟨hR, hD9⟩ := tn_side (va_P.app hPo hPx) hDc hk1 hF hD1
  have hPo := tn_P_l hR
  have hPx := tn_P_r hR
  rw [← List.append_assoc] at hD9
  have hD := tn_D_swap hD9
  refine W.cs (cells' := 16 + q) (slots' := 1489 + 6 * q) (Nat.add_zero _) (Nat.add_zero _) ?_
  clear hDc hF hz1 hk1 hD1 ht hvm
  clear hR
  generalize H1 = H at hPx hPm hPo hS ⊢
  refine lv_icmp_eq (tgt := 518) hx hb dL_law_201 (by decide) (fun c_201 => ?_) (fun c_201 => ?_)
  · skip
    refine W.widen (k := 16 + (q + 1)) (n := 1489 + 6 * (q + 1)) (by omega) (by omega) ?_
    exact K _ _ _ _ _ _ _ _ _ _ _ _ _ _ _ _ _ _ _ _ _ _ _ _ _ _ _ (tl_off hinv hw_188.1 hw_188.2 hw_198).2 hPx hPm hPo hD hS (lv_sub hl [0, 1, 2, 3, 4] rfl)
  · skip
    exact absurd (tl_off hinv hw_188.1 hw_188.2 hw_198).1 c_201
set_option maxHeartbeats 4000000 in
set_option maxRecDepth 100000 in
theorem law_c2 {p : Program} {l : Launch} {e : Env} {s : State} {m : MethodId} {below : List Frame} {meth : Method} {c : Code} {b L : Nat} {xs : Nat → Int32} {dC : Nat → ClassId} {dI : Nat → Nat → Nat} {h a1 a2 a3 a4 a5 a6 a7 k0 b1 b2 b3 b4 b5 b6 ao : Nat} {cI cL cZ : ClassId} (C : tl_C p l s m meth c b L xs dC dI cI cL cZ) {q : Nat} (hq : 5 * q + 5 ≤ L) (K : tl_K p l e s m below meth c b dC dI h a1 a2 a3 a4 a5 a6 a7 k0 b1 b2 b3 b4 b5 b6 ao cI cL cZ q 518 (16 + (q + 1)) (1489 + 6 * (q + 1))) : tl_K p l e s m below meth c b dC dI h a1 a2 a3 a4 a5 a6 a7 k0 b1 b2 b3 b4 b5 b6 ao cI cL cZ q 206 (16 + q) (1489 + 6 * q) := by
  obtain ⟨C0, hK, hfc, hZs, hst, hL⟩ := C
  obtain ⟨hx, hb, hr, hml, hown, hts0, hX, hbl, hlocks, hgv⟩ := C0
  have hts := fun w h => hts0 w (wsL_law_in w h)
  have hown : s.vm.findClass RL = some m.cls := hown
  have hA : ∀ q : Nat, s.heap.size ≤ q → (fun q : Nat => s.heap.size ≤ q) q := fun _ h => h
  have hbA : ¬ (fun q : Nat => s.heap.size ≤ q) b := Nat.not_le.mpr hbl
  intro cnt onc fp sp mo on lf sf rp rs rl th cnt2 fp2 sp2 mo2 on2 rs2 rw rl2 le bl bs ov H locs ls hinv hPx hPm hPo hD hS hl
  obtain ⟨⟨e1, e2, e3, e4, e5, e6, e7⟩, -⟩ := id hinv
  have e1 := e1.symm
  subst e1
  have e2 := e2.symm
  subst e2
  have e3 := e3.symm
  subst e3
  have e4 := e4.symm
  subst e4
  have e5 := e5.symm
  subst e5
  have e6 := e6.symm
  subst e6
  have e7 := e7.symm
  subst e7
  obtain ⟨-, g, ok, hoc, hrs, hrow, hrl⟩ := id hinv
  refine lv_aload_n hx hb dL_law_206 rfl (lv_at hl 1 rfl) ?_
  refine lv_aload_n hx hb dL_law_207 rfl (lv_at hl 0 rfl) ?_
  refine lv_iload hx hb dL_law_208 (lv_at hl 4 rfl) ?_
  refine lv_iconst (v := nI 1) hx hb dL_law_210 (by decide) ?_
  refine tn_iadd (a := (5 * q)) (b := 1) hx hb dL_law_211 ?_
  refine tn_sld (i := ((5 * q) + 1)) hx hb hX hbl hbA hS (by omega) (by omega) dL_law_212 ?_
  have hDc := hD
  have hF := tn_freeA (tn_D_l hDc) hS hA
  refine va_calli (va_runV (As := [.int (xs ((5 * q) + 1))]) (rest := []) ⟨hx, hb, hml, hown, hts⟩ (cX0_on_ok l dC dI h a1 a2 a3 a4 a5 a6 a7 cI cL cZ cnt onc fp sp mo on lf sf rp rs rl H.size g ok hoc (xs (5 * q + 1))) (cwV 1 hts gL_law_X0_on rfl rfl rfl (by decide +kernel) ⟨Nat.le_of_ble_eq_true rfl, Nat.le_of_ble_eq_true rfl⟩) (tn_preV hK hPx (tn_D_l hDc) (ci := 0) rfl 0 rfl) rfl rfl hl.1 rfl (lv_room (Nat.le_of_ble_eq_true rfl)) dL_law_213 ⟨by show 16 + q + 0 ≤ 1042; omega, by show 1489 + 6 * q + 0 ≤ 9693; omega⟩) hS (fun q _ h => hF q h) hF (fun r_213 u_213 t H1 locs ht hvm hw_213 hB hz1 hk1 hS => ?_)
  obtain ⟨hPx, -, hD1⟩ := hB
  rw [ht] at hPx
  obtain ⟨hR, hD⟩ := tn_side (va_P.app hPm hPo) hDc hk1 hF hD1
  have hPm := tn_P_l hR
  have hPo := tn_P_r hR
  refine W.cs (cells' := 16 + q) (slots' := 1489 + 6 * q) (Nat.add_zero _) (Nat.add_zero _) ?_
  clear hDc hF hz1 hk1 hD1 ht hvm
  clear hR
  generalize H1 = H at hPx hPm hPo hS ⊢
  refine lv_aload_n hx hb dL_law_216 rfl (lv_at hl 2 rfl) ?_
  refine lv_aload_n hx hb dL_law_217 rfl (lv_at hl 0 rfl) ?_
  refine lv_iload hx hb dL_law_218 (lv_at hl 4 rfl) ?_
  refine lv_iconst (v := nI 1) hx hb dL_law_220 (by decide) ?_
  refine tn_iadd (a := (5 * q)) (b := 1) hx hb dL_law_221 ?_
  refine tn_sld (i := ((5 * q) + 1)) hx hb hX hbl hbA hS (by omega) (by omega) dL_law_222 ?_
  have hDc := tn_D_swap hD
  rw [List.append_assoc] at hDc
  have hF := tn_freeA (tn_D_l hDc) hS hA
  refine va_calli (va_runV (As := [.int (xs ((5 * q) + 1))]) (rest := [.int r_213]) ⟨hx, hb, hml, hown, hts⟩ (cX1_on_ok l dC dI k0 b1 b2 b3 b4 b5 b6 cI cL cZ th cnt fp sp mo on rs rw rl le bl bs H.size g ok (xs (5 * q + 1))) (cwV 1 hts gL_law_X1_on rfl rfl rfl (by decide +kernel) ⟨Nat.le_of_ble_eq_true rfl, Nat.le_of_ble_eq_true rfl⟩) (tn_preV hK hPm (tn_D_l hDc) (ci := 1) rfl 0 rfl) rfl rfl hl.1 rfl (lv_room (Nat.le_of_ble_eq_true rfl)) dL_law_223 ⟨by show 16 + q + 0 ≤ 1042; omega, by show 1489 + 6 * q + 0 ≤ 9693; omega⟩) hS (fun q _ h => hF q h) hF (fun r_223 u_223 t H1 locs ht hvm hw_223 hB hz1 hk1 hS => ?_)
  obtain ⟨hPm, -, hD1⟩ := hB
  rw [ht] at hPm
  obtain ⟨hR, hD9⟩ := tn_side (va_P.app hPo hPx) hDc hk1 hF hD1
  have hPo := tn_P_l hR
  have hPx := tn_P_r hR
  rw [← List.append_assoc] at hD9
  have hD := tn_D_swap hD9
  refine W.cs (cells' := 16 + q) (slots' := 1489 + 6 * q) (Nat.add_zero _) (Nat.add_zero _) ?_
  clear hDc hF hz1 hk1 hD1 ht hvm
  clear hR
  generalize H1 = H at hPx hPm hPo hS ⊢
  refine lv_icmp_eq (tgt := 518) hx hb dL_law_226 (by decide) (fun c_226 => ?_) (fun c_226 => ?_)
  · skip
    refine W.widen (k := 16 + (q + 1)) (n := 1489 + 6 * (q + 1)) (by omega) (by omega) ?_
    exact K _ _ _ _ _ _ _ _ _ _ _ _ _ _ _ _ _ _ _ _ _ _ _ _ _ _ _ (tl_on hinv hw_213.1 hw_213.2 hw_223).2 hPx hPm hPo hD hS (lv_sub hl [0, 1, 2, 3, 4] rfl)
  · skip
    exact absurd (tl_on hinv hw_213.1 hw_213.2 hw_223).1 c_226
set_option maxHeartbeats 4000000 in
set_option maxRecDepth 100000 in
theorem law_c4 {p : Program} {l : Launch} {e : Env} {s : State} {m : MethodId} {below : List Frame} {meth : Method} {c : Code} {b L : Nat} {xs : Nat → Int32} {dC : Nat → ClassId} {dI : Nat → Nat → Nat} {h a1 a2 a3 a4 a5 a6 a7 k0 b1 b2 b3 b4 b5 b6 ao : Nat} {cI cL cZ : ClassId} (C : tl_C p l s m meth c b L xs dC dI cI cL cZ) {q : Nat} (hq : 5 * q + 5 ≤ L) (K : tl_K p l e s m below meth c b dC dI h a1 a2 a3 a4 a5 a6 a7 k0 b1 b2 b3 b4 b5 b6 ao cI cL cZ q 518 (16 + (q + 1)) (1489 + 6 * (q + 1))) : tl_K p l e s m below meth c b dC dI h a1 a2 a3 a4 a5 a6 a7 k0 b1 b2 b3 b4 b5 b6 ao cI cL cZ q 298 (16 + q) (1489 + 6 * q) := by
  obtain ⟨C0, hK, hfc, hZs, hst, hL⟩ := C
  obtain ⟨hx, hb, hr, hml, hown, hts0, hX, hbl, hlocks, hgv⟩ := C0
  have hts := fun w h => hts0 w (wsL_law_in w h)
  have hown : s.vm.findClass RL = some m.cls := hown
  have hA : ∀ q : Nat, s.heap.size ≤ q → (fun q : Nat => s.heap.size ≤ q) q := fun _ h => h
  have hbA : ¬ (fun q : Nat => s.heap.size ≤ q) b := Nat.not_le.mpr hbl
  intro cnt onc fp sp mo on lf sf rp rs rl th cnt2 fp2 sp2 mo2 on2 rs2 rw rl2 le bl bs ov H locs ls hinv hPx hPm hPo hD hS hl
  obtain ⟨⟨e1, e2, e3, e4, e5, e6, e7⟩, -⟩ := id hinv
  have e1 := e1.symm
  subst e1
  have e2 := e2.symm
  subst e2
  have e3 := e3.symm
  subst e3
  have e4 := e4.symm
  subst e4
  have e5 := e5.symm
  subst e5
  have e6 := e6.symm
  subst e6
  have e7 := e7.symm
  subst e7
  obtain ⟨-, g, ok, hoc, hrs, hrow, hrl⟩ := id hinv
  refine lv_aload_n hx hb dL_law_298 rfl (lv_at hl 1 rfl) ?_
  refine lv_aload_n hx hb dL_law_299 rfl (lv_at hl 0 rfl) ?_
  refine lv_iload hx hb dL_law_300 (lv_at hl 4 rfl) ?_
  refine lv_iconst (v := nI 1) hx hb dL_law_302 (by decide) ?_
  refine tn_iadd (a := (5 * q)) (b := 1) hx hb dL_law_303 ?_
  refine tn_sld (i := ((5 * q) + 1)) hx hb hX hbl hbA hS (by omega) (by omega) dL_law_304 ?_
  refine lv_aload_n hx hb dL_law_305 rfl (lv_at hl 0 rfl) ?_
  refine lv_iload hx hb dL_law_306 (lv_at hl 4 rfl) ?_
  refine lv_iconst (v := nI 2) hx hb dL_law_308 (by decide) ?_
  refine tn_iadd (a := (5 * q)) (b := 2) hx hb dL_law_309 ?_
  refine tn_sld (i := ((5 * q) + 2)) hx hb hX hbl hbA hS (by omega) (by omega) dL_law_310 ?_
  have hDc := hD
  have hF := tn_freeA (tn_D_l hDc) hS hA
  refine va_calli (va_runV (As := [.int (xs ((5 * q) + 1)), .int (xs ((5 * q) + 2))]) (rest := []) ⟨hx, hb, hml, hown, hts⟩ (cX0_steps_ok l dC dI h a1 a2 a3 a4 a5 a6 a7 cI cL cZ cnt onc fp sp mo on lf sf rp rs rl H.size g ok (xs (5 * q + 1)) (xs (5 * q + 2))) (cwV 2 hts gL_law_X0_steps rfl rfl rfl (by decide +kernel) ⟨Nat.le_of_ble_eq_true rfl, Nat.le_of_ble_eq_true rfl⟩) (tn_preV hK hPx (tn_D_l hDc) (ci := 0) rfl 0 rfl) rfl rfl hl.1 rfl (lv_room (Nat.le_of_ble_eq_true rfl)) dL_law_311 ⟨by show 16 + q + 0 ≤ 1042; omega, by show 1489 + 6 * q + 0 ≤ 9693; omega⟩) hS (fun q _ h => hF q h) hF (fun r_311 u_311 t H1 locs ht hvm hw_311 hB hz1 hk1 hS => ?_)
  obtain ⟨hPx, -, hD1⟩ := hB
  rw [ht] at hPx
  obtain ⟨hR, hD⟩ := tn_side (va_P.app hPm hPo) hDc hk1 hF hD1
  have hPm := tn_P_l hR
  have hPo := tn_P_r hR
  refine W.cs (cells' := 16 + q) (slots' := 1489 + 6 * q) (Nat.add_zero _) (Nat.add_zero _) ?_
  clear hDc hF hz1 hk1 hD1 ht hvm
  clear hR
  generalize H1 = H at hPx hPm hPo hS ⊢
  refine lv_aload_n hx hb dL_law_314 rfl (lv_at hl 2 rfl) ?_
  refine lv_aload_n hx hb dL_law_315 rfl (lv_at hl 0 rfl) ?_
  refine lv_iload hx hb dL_law_316 (lv_at hl 4 rfl) ?_
  refine lv_iconst (v := nI 1) hx hb dL_law_318 (by decide) ?_
  refine tn_iadd (a := (5 * q)) (b := 1) hx hb dL_law_319 ?_
  refine tn_sld (i := ((5 * q) + 1)) hx hb hX hbl hbA hS (by omega) (by omega) dL_law_320 ?_
  refine lv_aload_n hx hb dL_law_321 rfl (lv_at hl 0 rfl) ?_
  refine lv_iload hx hb dL_law_322 (lv_at hl 4 rfl) ?_
  refine lv_iconst (v := nI 2) hx hb dL_law_324 (by decide) ?_
  refine tn_iadd (a := (5 * q)) (b := 2) hx hb dL_law_325 ?_
  refine tn_sld (i := ((5 * q) + 2)) hx hb hX hbl hbA hS (by omega) (by omega) dL_law_326 ?_
  have hDc := tn_D_swap hD
  rw [List.append_assoc] at hDc
  have hF := tn_freeA (tn_D_l hDc) hS hA
  refine va_calli (va_runV (As := [.int (xs ((5 * q) + 1)), .int (xs ((5 * q) + 2))]) (rest := [.int r_311]) ⟨hx, hb, hml, hown, hts⟩ (cX1_steps_ok l dC dI k0 b1 b2 b3 b4 b5 b6 cI cL cZ th cnt fp sp mo on rs rw rl le bl bs H.size g ok (xs (5 * q + 1)) (xs (5 * q + 2))) (cwV 2 hts gL_law_X1_steps rfl rfl rfl (by decide +kernel) ⟨Nat.le_of_ble_eq_true rfl, Nat.le_of_ble_eq_true rfl⟩) (tn_preV hK hPm (tn_D_l hDc) (ci := 1) rfl 0 rfl) rfl rfl hl.1 rfl (lv_room (Nat.le_of_ble_eq_true rfl)) dL_law_327 ⟨by show 16 + q + 0 ≤ 1042; omega, by show 1489 + 6 * q + 0 ≤ 9693; omega⟩) hS (fun q _ h => hF q h) hF (fun r_327 u_327 t H1 locs ht hvm hw_327 hB hz1 hk1 hS => ?_)
  obtain ⟨hPm, -, hD1⟩ := hB
  rw [ht] at hPm
  obtain ⟨hR, hD9⟩ := tn_side (va_P.app hPo hPx) hDc hk1 hF hD1
  have hPo := tn_P_l hR
  have hPx := tn_P_r hR
  rw [← List.append_assoc] at hD9
  have hD := tn_D_swap hD9
  refine W.cs (cells' := 16 + q) (slots' := 1489 + 6 * q) (Nat.add_zero _) (Nat.add_zero _) ?_
  clear hDc hF hz1 hk1 hD1 ht hvm
  clear hR
  generalize H1 = H at hPx hPm hPo hS ⊢
  refine lv_icmp_eq (tgt := 518) hx hb dL_law_330 (by decide) (fun c_330 => ?_) (fun c_330 => ?_)
  · skip
    refine W.widen (k := 16 + (q + 1)) (n := 1489 + 6 * (q + 1)) (by omega) (by omega) ?_
    exact K _ _ _ _ _ _ _ _ _ _ _ _ _ _ _ _ _ _ _ _ _ _ _ _ _ _ _ hinv hPx hPm hPo hD hS (lv_sub hl [0, 1, 2, 3, 4] rfl)
  · skip
    exact absurd (tl_steps hw_311 hw_327) c_330
set_option maxHeartbeats 4000000 in
set_option maxRecDepth 100000 in
theorem law_c5 {p : Program} {l : Launch} {e : Env} {s : State} {m : MethodId} {below : List Frame} {meth : Method} {c : Code} {b L : Nat} {xs : Nat → Int32} {dC : Nat → ClassId} {dI : Nat → Nat → Nat} {h a1 a2 a3 a4 a5 a6 a7 k0 b1 b2 b3 b4 b5 b6 ao : Nat} {cI cL cZ : ClassId} (C : tl_C p l s m meth c b L xs dC dI cI cL cZ) {q : Nat} (hq : 5 * q + 5 ≤ L) (K : tl_K p l e s m below meth c b dC dI h a1 a2 a3 a4 a5 a6 a7 k0 b1 b2 b3 b4 b5 b6 ao cI cL cZ q 518 (16 + (q + 1)) (1489 + 6 * (q + 1))) : tl_K p l e s m below meth c b dC dI h a1 a2 a3 a4 a5 a6 a7 k0 b1 b2 b3 b4 b5 b6 ao cI cL cZ q 335 (16 + q) (1489 + 6 * q) := by
  obtain ⟨C0, hK, hfc, hZs, hst, hL⟩ := C
  obtain ⟨hx, hb, hr, hml, hown, hts0, hX, hbl, hlocks, hgv⟩ := C0
  have hts := fun w h => hts0 w (wsL_law_in w h)
  have hown : s.vm.findClass RL = some m.cls := hown
  have hA : ∀ q : Nat, s.heap.size ≤ q → (fun q : Nat => s.heap.size ≤ q) q := fun _ h => h
  have hbA : ¬ (fun q : Nat => s.heap.size ≤ q) b := Nat.not_le.mpr hbl
  intro cnt onc fp sp mo on lf sf rp rs rl th cnt2 fp2 sp2 mo2 on2 rs2 rw rl2 le bl bs ov H locs ls hinv hPx hPm hPo hD hS hl
  obtain ⟨⟨e1, e2, e3, e4, e5, e6, e7⟩, -⟩ := id hinv
  have e1 := e1.symm
  subst e1
  have e2 := e2.symm
  subst e2
  have e3 := e3.symm
  subst e3
  have e4 := e4.symm
  subst e4
  have e5 := e5.symm
  subst e5
  have e6 := e6.symm
  subst e6
  have e7 := e7.symm
  subst e7
  obtain ⟨-, g, ok, hoc, hrs, hrow, hrl⟩ := id hinv
  refine lv_aload_n hx hb dL_law_335 rfl (lv_at hl 1 rfl) ?_
  refine lv_aload_n hx hb dL_law_336 rfl (lv_at hl 0 rfl) ?_
  refine lv_iload hx hb dL_law_337 (lv_at hl 4 rfl) ?_
  refine lv_iconst (v := nI 1) hx hb dL_law_339 (by decide) ?_
  refine tn_iadd (a := (5 * q)) (b := 1) hx hb dL_law_340 ?_
  refine tn_sld (i := ((5 * q) + 1)) hx hb hX hbl hbA hS (by omega) (by omega) dL_law_341 ?_
  refine lv_aload_n hx hb dL_law_342 rfl (lv_at hl 0 rfl) ?_
  refine lv_iload hx hb dL_law_343 (lv_at hl 4 rfl) ?_
  refine lv_iconst (v := nI 2) hx hb dL_law_345 (by decide) ?_
  refine tn_iadd (a := (5 * q)) (b := 2) hx hb dL_law_346 ?_
  refine tn_sld (i := ((5 * q) + 2)) hx hb hX hbl hbA hS (by omega) (by omega) dL_law_347 ?_
  have hDc := hD
  have hF := tn_freeA (tn_D_l hDc) hS hA
  refine va_calli (va_runV (As := [.int (xs ((5 * q) + 1)), .int (xs ((5 * q) + 2))]) (rest := []) ⟨hx, hb, hml, hown, hts⟩ (cX0_path_ok l dC dI h a1 a2 a3 a4 a5 a6 a7 cI cL cZ cnt onc fp sp mo on lf sf rp rs rl H.size g ok (xs (5 * q + 1)) (xs (5 * q + 2))) (cwV 2 hts gL_law_X0_path rfl rfl rfl (by decide +kernel) ⟨Nat.le_of_ble_eq_true rfl, Nat.le_of_ble_eq_true rfl⟩) (tn_preV hK hPx (tn_D_l hDc) (ci := 0) rfl 0 rfl) rfl rfl hl.1 rfl (lv_room (Nat.le_of_ble_eq_true rfl)) dL_law_348 ⟨by show 16 + q + 0 ≤ 1042; omega, by show 1489 + 6 * q + 0 ≤ 9693; omega⟩) hS (fun q _ h => hF q h) hF (fun r_348 u_348 t H1 locs ht hvm hw_348 hB hz1 hk1 hS => ?_)
  obtain ⟨hPx, -, hD1⟩ := hB
  rw [ht] at hPx
  obtain ⟨hR, hD⟩ := tn_side (va_P.app hPm hPo) hDc hk1 hF hD1
  have hPm := tn_P_l hR
  have hPo := tn_P_r hR
  refine W.cs (cells' := 16 + q) (slots' := 1489 + 6 * q) (Nat.add_zero _) (Nat.add_zero _) ?_
  clear hDc hF hz1 hk1 hD1 ht hvm
  clear hR
  generalize H1 = H at hPx hPm hPo hS ⊢
  refine lv_aload_n hx hb dL_law_351 rfl (lv_at hl 2 rfl) ?_
  refine lv_aload_n hx hb dL_law_352 rfl (lv_at hl 0 rfl) ?_
  refine lv_iload hx hb dL_law_353 (lv_at hl 4 rfl) ?_
  refine lv_iconst (v := nI 1) hx hb dL_law_355 (by decide) ?_
  refine tn_iadd (a := (5 * q)) (b := 1) hx hb dL_law_356 ?_
  refine tn_sld (i := ((5 * q) + 1)) hx hb hX hbl hbA hS (by omega) (by omega) dL_law_357 ?_
  refine lv_aload_n hx hb dL_law_358 rfl (lv_at hl 0 rfl) ?_
  refine lv_iload hx hb dL_law_359 (lv_at hl 4 rfl) ?_
  refine lv_iconst (v := nI 2) hx hb dL_law_361 (by decide) ?_
  refine tn_iadd (a := (5 * q)) (b := 2) hx hb dL_law_362 ?_
  refine tn_sld (i := ((5 * q) + 2)) hx hb hX hbl hbA hS (by omega) (by omega) dL_law_363 ?_
  have hDc := tn_D_swap hD
  rw [List.append_assoc] at hDc
  have hF := tn_freeA (tn_D_l hDc) hS hA
  refine va_calli (va_runV (As := [.int (xs ((5 * q) + 1)), .int (xs ((5 * q) + 2))]) (rest := [.int r_348]) ⟨hx, hb, hml, hown, hts⟩ (cX1_path_ok l dC dI k0 b1 b2 b3 b4 b5 b6 cI cL cZ th cnt fp sp mo on rs rw rl le bl bs H.size g ok (xs (5 * q + 1)) (xs (5 * q + 2))) (cwV 2 hts gL_law_X1_path rfl rfl rfl (by decide +kernel) ⟨Nat.le_of_ble_eq_true rfl, Nat.le_of_ble_eq_true rfl⟩) (tn_preV hK hPm (tn_D_l hDc) (ci := 1) rfl 0 rfl) rfl rfl hl.1 rfl (lv_room (Nat.le_of_ble_eq_true rfl)) dL_law_364 ⟨by show 16 + q + 0 ≤ 1042; omega, by show 1489 + 6 * q + 0 ≤ 9693; omega⟩) hS (fun q _ h => hF q h) hF (fun r_364 u_364 t H1 locs ht hvm hw_364 hB hz1 hk1 hS => ?_)
  obtain ⟨hPm, -, hD1⟩ := hB
  rw [ht] at hPm
  obtain ⟨hR, hD9⟩ := tn_side (va_P.app hPo hPx) hDc hk1 hF hD1
  have hPo := tn_P_l hR
  have hPx := tn_P_r hR
  rw [← List.append_assoc] at hD9
  have hD := tn_D_swap hD9
  refine W.cs (cells' := 16 + q) (slots' := 1489 + 6 * q) (Nat.add_zero _) (Nat.add_zero _) ?_
  clear hDc hF hz1 hk1 hD1 ht hvm
  clear hR
  generalize H1 = H at hPx hPm hPo hS ⊢
  refine lv_icmp_eq (tgt := 518) hx hb dL_law_367 (by decide) (fun c_367 => ?_) (fun c_367 => ?_)
  · skip
    refine W.widen (k := 16 + (q + 1)) (n := 1489 + 6 * (q + 1)) (by omega) (by omega) ?_
    exact K _ _ _ _ _ _ _ _ _ _ _ _ _ _ _ _ _ _ _ _ _ _ _ _ _ _ _ (tl_path hinv hw_348 hw_364).2 hPx hPm hPo hD hS (lv_sub hl [0, 1, 2, 3, 4] rfl)
  · skip
    exact absurd (tl_path hinv hw_348 hw_364).1 c_367
end
section
set_option maxHeartbeats 4000000 in
set_option maxRecDepth 100000 in
theorem law_c6 {p : Program} {l : Launch} {e : Env} {s : State} {m : MethodId} {below : List Frame} {meth : Method} {c : Code} {b L : Nat} {xs : Nat → Int32} {dC : Nat → ClassId} {dI : Nat → Nat → Nat} {h a1 a2 a3 a4 a5 a6 a7 k0 b1 b2 b3 b4 b5 b6 ao : Nat} {cI cL cZ : ClassId} (C : tl_C p l s m meth c b L xs dC dI cI cL cZ) {q : Nat} (hq : 5 * q + 5 ≤ L) (K : tl_K p l e s m below meth c b dC dI h a1 a2 a3 a4 a5 a6 a7 k0 b1 b2 b3 b4 b5 b6 ao cI cL cZ q 518 (16 + (q + 1)) (1489 + 6 * (q + 1))) : tl_K p l e s m below meth c b dC dI h a1 a2 a3 a4 a5 a6 a7 k0 b1 b2 b3 b4 b5 b6 ao cI cL cZ q 372 (16 + q) (1489 + 6 * q) := by
  obtain ⟨C0, hK, hfc, hZs, hst, hL⟩ := C
  obtain ⟨hx, hb, hr, hml, hown, hts0, hX, hbl, hlocks, hgv⟩ := C0
  have hts := fun w h => hts0 w (wsL_law_in w h)
  have hown : s.vm.findClass RL = some m.cls := hown
  have hA : ∀ q : Nat, s.heap.size ≤ q → (fun q : Nat => s.heap.size ≤ q) q := fun _ h => h
  have hbA : ¬ (fun q : Nat => s.heap.size ≤ q) b := Nat.not_le.mpr hbl
  intro cnt onc fp sp mo on lf sf rp rs rl th cnt2 fp2 sp2 mo2 on2 rs2 rw rl2 le bl bs ov H locs ls hinv hPx hPm hPo hD hS hl
  obtain ⟨⟨e1, e2, e3, e4, e5, e6, e7⟩, -⟩ := id hinv
  have e1 := e1.symm
  subst e1
  have e2 := e2.symm
  subst e2
  have e3 := e3.symm
  subst e3
  have e4 := e4.symm
  subst e4
  have e5 := e5.symm
  subst e5
  have e6 := e6.symm
  subst e6
  have e7 := e7.symm
  subst e7
  obtain ⟨-, g, ok, hoc, hrs, hrow, hrl⟩ := id hinv
  refine lv_aload_n hx hb dL_law_372 rfl (lv_at hl 1 rfl) ?_
  have hDc := hD
  have hF := tn_freeA (tn_D_l hDc) hS hA
  refine va_calli (va_runV (As := []) (rest := []) ⟨hx, hb, hml, hown, hts⟩ (cX0_row_ok l dC dI h a1 a2 a3 a4 a5 a6 a7 cI cL cZ cnt onc fp sp mo on lf sf rp rs rl H.size ) (cwV 0 hts gL_law_X0_row rfl rfl rfl (by decide +kernel) ⟨Nat.le_of_ble_eq_true rfl, Nat.le_of_ble_eq_true rfl⟩) (tn_preV hK hPx (tn_D_l hDc) (ci := 0) rfl 0 rfl) rfl rfl hl.1 rfl (lv_room (Nat.le_of_ble_eq_true rfl)) dL_law_373 ⟨by show 16 + q + 0 ≤ 1042; omega, by show 1489 + 6 * q + 0 ≤ 9693; omega⟩) hS (fun q _ h => hF q h) hF (fun r_373 u_373 t H1 locs ht hvm hw_373 hB hz1 hk1 hS => ?_)
  obtain ⟨hPx, -, hD1⟩ := hB
  rw [ht] at hPx
  obtain ⟨hR, hD⟩ := tn_side (va_P.app hPm hPo) hDc hk1 hF hD1
  have hPm := tn_P_l hR
  have hPo := tn_P_r hR
  refine W.cs (cells' := 16 + q) (slots' := 1489 + 6 * q) (Nat.add_zero _) (Nat.add_zero _) ?_
  clear hDc hF hz1 hk1 hD1 ht hvm
  clear hR
  generalize H1 = H at hPx hPm hPo hS ⊢
  refine lv_aload_n hx hb dL_law_376 rfl (lv_at hl 2 rfl) ?_
  have hDc := tn_D_swap hD
  rw [List.append_assoc] at hDc
  have hF := tn_freeA (tn_D_l hDc) hS hA
  refine va_calli (va_runV (As := []) (rest := [.int r_373]) ⟨hx, hb, hml, hown, hts⟩ (cX1_row_ok l dC dI k0 b1 b2 b3 b4 b5 b6 cI cL cZ th cnt fp sp mo on rs rw rl le bl bs H.size ) (cwV 0 hts gL_law_X1_row rfl rfl rfl (by decide +kernel) ⟨Nat.le_of_ble_eq_true rfl, Nat.le_of_ble_eq_true rfl⟩) (tn_preV hK hPm (tn_D_l hDc) (ci := 1) rfl 0 rfl) rfl rfl hl.1 rfl (lv_room (Nat.le_of_ble_eq_true rfl)) dL_law_377 ⟨by show 16 + q + 0 ≤ 1042; omega, by show 1489 + 6 * q + 0 ≤ 9693; omega⟩) hS (fun q _ h => hF q h) hF (fun r_377 u_377 t H1 locs ht hvm hw_377 hB hz1 hk1 hS => ?_)
  obtain ⟨hPm, -, hD1⟩ := hB
  rw [ht] at hPm
  obtain ⟨hR, hD9⟩ := tn_side (va_P.app hPo hPx) hDc hk1 hF hD1
  have hPo := tn_P_l hR
  have hPx := tn_P_r hR
  rw [← List.append_assoc] at hD9
  have hD := tn_D_swap hD9
  refine W.cs (cells' := 16 + q) (slots' := 1489 + 6 * q) (Nat.add_zero _) (Nat.add_zero _) ?_
  clear hDc hF hz1 hk1 hD1 ht hvm
  clear hR
  generalize H1 = H at hPx hPm hPo hS ⊢
  refine lv_icmp_eq (tgt := 518) hx hb dL_law_380 (by decide) (fun c_380 => ?_) (fun c_380 => ?_)
  · skip
    refine W.widen (k := 16 + (q + 1)) (n := 1489 + 6 * (q + 1)) (by omega) (by omega) ?_
    exact K _ _ _ _ _ _ _ _ _ _ _ _ _ _ _ _ _ _ _ _ _ _ _ _ _ _ _ hinv hPx hPm hPo hD hS (lv_sub hl [0, 1, 2, 3, 4] rfl)
  · skip
    exact absurd (Eq.trans hw_373 (Eq.symm hw_377)) c_380
set_option maxHeartbeats 4000000 in
set_option maxRecDepth 100000 in
theorem law_c7 {p : Program} {l : Launch} {e : Env} {s : State} {m : MethodId} {below : List Frame} {meth : Method} {c : Code} {b L : Nat} {xs : Nat → Int32} {dC : Nat → ClassId} {dI : Nat → Nat → Nat} {h a1 a2 a3 a4 a5 a6 a7 k0 b1 b2 b3 b4 b5 b6 ao : Nat} {cI cL cZ : ClassId} (C : tl_C p l s m meth c b L xs dC dI cI cL cZ) {q : Nat} (hq : 5 * q + 5 ≤ L) (K : tl_K p l e s m below meth c b dC dI h a1 a2 a3 a4 a5 a6 a7 k0 b1 b2 b3 b4 b5 b6 ao cI cL cZ q 518 (16 + (q + 1)) (1489 + 6 * (q + 1))) : tl_K p l e s m below meth c b dC dI h a1 a2 a3 a4 a5 a6 a7 k0 b1 b2 b3 b4 b5 b6 ao cI cL cZ q 385 (16 + q) (1489 + 6 * q) := by
  obtain ⟨C0, hK, hfc, hZs, hst, hL⟩ := C
  obtain ⟨hx, hb, hr, hml, hown, hts0, hX, hbl, hlocks, hgv⟩ := C0
  have hts := fun w h => hts0 w (wsL_law_in w h)
  have hown : s.vm.findClass RL = some m.cls := hown
  have hA : ∀ q : Nat, s.heap.size ≤ q → (fun q : Nat => s.heap.size ≤ q) q := fun _ h => h
  have hbA : ¬ (fun q : Nat => s.heap.size ≤ q) b := Nat.not_le.mpr hbl
  intro cnt onc fp sp mo on lf sf rp rs rl th cnt2 fp2 sp2 mo2 on2 rs2 rw rl2 le bl bs ov H locs ls hinv hPx hPm hPo hD hS hl
  obtain ⟨⟨e1, e2, e3, e4, e5, e6, e7⟩, -⟩ := id hinv
  have e1 := e1.symm
  subst e1
  have e2 := e2.symm
  subst e2
  have e3 := e3.symm
  subst e3
  have e4 := e4.symm
  subst e4
  have e5 := e5.symm
  subst e5
  have e6 := e6.symm
  subst e6
  have e7 := e7.symm
  subst e7
  obtain ⟨-, g, ok, hoc, hrs, hrow, hrl⟩ := id hinv
  refine lv_aload_n hx hb dL_law_385 rfl (lv_at hl 1 rfl) ?_
  refine lv_aload_n hx hb dL_law_386 rfl (lv_at hl 0 rfl) ?_
  refine lv_iload hx hb dL_law_387 (lv_at hl 4 rfl) ?_
  refine lv_iconst (v := nI 1) hx hb dL_law_389 (by decide) ?_
  refine tn_iadd (a := (5 * q)) (b := 1) hx hb dL_law_390 ?_
  refine tn_sld (i := ((5 * q) + 1)) hx hb hX hbl hbA hS (by omega) (by omega) dL_law_391 ?_
  have hDc := hD
  have hF := tn_freeA (tn_D_l hDc) hS hA
  refine va_calli (va_runV (As := [.int (xs ((5 * q) + 1))]) (rest := []) ⟨hx, hb, hml, hown, hts⟩ (cX0_rowAt_ok l dC dI h a1 a2 a3 a4 a5 a6 a7 cI cL cZ cnt onc fp sp mo on lf sf rp rs rl H.size hrs (xs (5 * q + 1))) (cwV 1 hts gL_law_X0_rowAt rfl rfl rfl (by decide +kernel) ⟨Nat.le_of_ble_eq_true rfl, Nat.le_of_ble_eq_true rfl⟩) (tn_preV hK hPx (tn_D_l hDc) (ci := 0) rfl 0 rfl) rfl rfl hl.1 rfl (lv_room (Nat.le_of_ble_eq_true rfl)) dL_law_392 ⟨by show 16 + q + 0 ≤ 1042; omega, by show 1489 + 6 * q + 0 ≤ 9693; omega⟩) hS (fun q _ h => hF q h) hF (fun r_392 u_392 t H1 locs ht hvm hw_392 hB hz1 hk1 hS => ?_)
  obtain ⟨hPx, -, hD1⟩ := hB
  rw [ht] at hPx
  obtain ⟨hR, hD⟩ := tn_side (va_P.app hPm hPo) hDc hk1 hF hD1
  have hPm := tn_P_l hR
  have hPo := tn_P_r hR
  refine W.cs (cells' := 16 + q) (slots' := 1489 + 6 * q) (Nat.add_zero _) (Nat.add_zero _) ?_
  clear hDc hF hz1 hk1 hD1 ht hvm
  clear hR
  generalize H1 = H at hPx hPm hPo hS ⊢
  refine lv_aload_n hx hb dL_law_395 rfl (lv_at hl 2 rfl) ?_
  refine lv_aload_n hx hb dL_law_396 rfl (lv_at hl 0 rfl) ?_
  refine lv_iload hx hb dL_law_397 (lv_at hl 4 rfl) ?_
  refine lv_iconst (v := nI 1) hx hb dL_law_399 (by decide) ?_
  refine tn_iadd (a := (5 * q)) (b := 1) hx hb dL_law_400 ?_
  refine tn_sld (i := ((5 * q) + 1)) hx hb hX hbl hbA hS (by omega) (by omega) dL_law_401 ?_
  have hDc := tn_D_swap hD
  rw [List.append_assoc] at hDc
  have hF := tn_freeA (tn_D_l hDc) hS hA
  refine va_calli (va_runV (As := [.int (xs ((5 * q) + 1))]) (rest := [.int r_392]) ⟨hx, hb, hml, hown, hts⟩ (cX1_rowAt_ok l dC dI k0 b1 b2 b3 b4 b5 b6 cI cL cZ th cnt fp sp mo on rs rw rl le bl bs H.size (by omega) (xs (5 * q + 1))) (cwV 1 hts gL_law_X1_rowAt rfl rfl rfl (by decide +kernel) ⟨Nat.le_of_ble_eq_true rfl, Nat.le_of_ble_eq_true rfl⟩) (tn_preV hK hPm (tn_D_l hDc) (ci := 1) rfl 0 rfl) rfl rfl hl.1 rfl (lv_room (Nat.le_of_ble_eq_true rfl)) dL_law_402 ⟨by show 16 + q + 0 ≤ 1042; omega, by show 1489 + 6 * q + 0 ≤ 9693; omega⟩) hS (fun q _ h => hF q h) hF (fun r_402 u_402 t H1 locs ht hvm hw_402 hB hz1 hk1 hS => ?_)
  obtain ⟨hPm, -, hD1⟩ := hB
  rw [ht] at hPm
  obtain ⟨hR, hD9⟩ := tn_side (va_P.app hPo hPx) hDc hk1 hF hD1
  have hPo := tn_P_l hR
  have hPx := tn_P_r hR
  rw [← List.append_assoc] at hD9
  have hD := tn_D_swap hD9
  refine W.cs (cells' := 16 + q) (slots' := 1489 + 6 * q) (Nat.add_zero _) (Nat.add_zero _) ?_
  clear hDc hF hz1 hk1 hD1 ht hvm
  clear hR
  generalize H1 = H at hPx hPm hPo hS ⊢
  refine lv_icmp_eq (tgt := 518) hx hb dL_law_405 (by decide) (fun c_405 => ?_) (fun c_405 => ?_)
  · skip
    refine W.widen (k := 16 + (q + 1)) (n := 1489 + 6 * (q + 1)) (by omega) (by omega) ?_
    exact K _ _ _ _ _ _ _ _ _ _ _ _ _ _ _ _ _ _ _ _ _ _ _ _ _ _ _ hinv hPx hPm hPo hD hS (lv_sub hl [0, 1, 2, 3, 4] rfl)
  · skip
    exact absurd (tl_rowAt hinv hw_392 hw_402) c_405
set_option maxHeartbeats 4000000 in
set_option maxRecDepth 100000 in
theorem law_c8 {p : Program} {l : Launch} {e : Env} {s : State} {m : MethodId} {below : List Frame} {meth : Method} {c : Code} {b L : Nat} {xs : Nat → Int32} {dC : Nat → ClassId} {dI : Nat → Nat → Nat} {h a1 a2 a3 a4 a5 a6 a7 k0 b1 b2 b3 b4 b5 b6 ao : Nat} {cI cL cZ : ClassId} (C : tl_C p l s m meth c b L xs dC dI cI cL cZ) {q : Nat} (hq : 5 * q + 5 ≤ L) (K : tl_K p l e s m below meth c b dC dI h a1 a2 a3 a4 a5 a6 a7 k0 b1 b2 b3 b4 b5 b6 ao cI cL cZ q 518 (16 + (q + 1)) (1489 + 6 * (q + 1))) : tl_K p l e s m below meth c b dC dI h a1 a2 a3 a4 a5 a6 a7 k0 b1 b2 b3 b4 b5 b6 ao cI cL cZ q 410 (16 + q) (1489 + 6 * q) := by
  obtain ⟨C0, hK, hfc, hZs, hst, hL⟩ := C
  obtain ⟨hx, hb, hr, hml, hown, hts0, hX, hbl, hlocks, hgv⟩ := C0
  have hts := fun w h => hts0 w (wsL_law_in w h)
  have hown : s.vm.findClass RL = some m.cls := hown
  have hA : ∀ q : Nat, s.heap.size ≤ q → (fun q : Nat => s.heap.size ≤ q) q := fun _ h => h
  have hbA : ¬ (fun q : Nat => s.heap.size ≤ q) b := Nat.not_le.mpr hbl
  intro cnt onc fp sp mo on lf sf rp rs rl th cnt2 fp2 sp2 mo2 on2 rs2 rw rl2 le bl bs ov H locs ls hinv hPx hPm hPo hD hS hl
  obtain ⟨⟨e1, e2, e3, e4, e5, e6, e7⟩, -⟩ := id hinv
  have e1 := e1.symm
  subst e1
  have e2 := e2.symm
  subst e2
  have e3 := e3.symm
  subst e3
  have e4 := e4.symm
  subst e4
  have e5 := e5.symm
  subst e5
  have e6 := e6.symm
  subst e6
  have e7 := e7.symm
  subst e7
  obtain ⟨-, g, ok, hoc, hrs, hrow, hrl⟩ := id hinv
  refine lv_aload_n hx hb dL_law_410 rfl (lv_at hl 1 rfl) ?_
  have hDc := hD
  have hF := tn_freeA (tn_D_l hDc) hS hA
  refine va_calll (va_runV (As := []) (rest := []) ⟨hx, hb, hml, hown, hts⟩ (cX0_length_ok l dC dI h a1 a2 a3 a4 a5 a6 a7 cI cL cZ cnt onc fp sp mo on lf sf rp rs rl H.size ) (cwV 0 hts gL_law_X0_length rfl rfl rfl (by decide +kernel) ⟨Nat.le_of_ble_eq_true rfl, Nat.le_of_ble_eq_true rfl⟩) (tn_preV hK hPx (tn_D_l hDc) (ci := 0) rfl 0 rfl) rfl rfl hl.1 rfl (lv_room (Nat.le_of_ble_eq_true rfl)) dL_law_411 ⟨by show 16 + q + 0 ≤ 1042; omega, by show 1489 + 6 * q + 0 ≤ 9693; omega⟩) hS (fun q _ h => hF q h) hF (fun r_411 u_411 t H1 locs ht hvm hw_411 hB hz1 hk1 hS => ?_)
  obtain ⟨hPx, -, hD1⟩ := hB
  rw [ht] at hPx
  obtain ⟨hR, hD⟩ := tn_side (va_P.app hPm hPo) hDc hk1 hF hD1
  have hPm := tn_P_l hR
  have hPo := tn_P_r hR
  refine W.cs (cells' := 16 + q) (slots' := 1489 + 6 * q) (Nat.add_zero _) (Nat.add_zero _) ?_
  clear hDc hF hz1 hk1 hD1 ht hvm
  clear hR
  generalize H1 = H at hPx hPm hPo hS ⊢
  refine lv_aload_n hx hb dL_law_414 rfl (lv_at hl 2 rfl) ?_
  have hDc := tn_D_swap hD
  rw [List.append_assoc] at hDc
  have hF := tn_freeA (tn_D_l hDc) hS hA
  refine va_calll (va_runV (As := []) (rest := [.long r_411]) ⟨hx, hb, hml, hown, hts⟩ (cX1_length_ok l dC dI k0 b1 b2 b3 b4 b5 b6 cI cL cZ th cnt fp sp mo on rs rw rl le bl bs H.size (by omega)) (cwV 0 hts gL_law_X1_length rfl rfl rfl (by decide +kernel) ⟨Nat.le_of_ble_eq_true rfl, Nat.le_of_ble_eq_true rfl⟩) (tn_preV hK hPm (tn_D_l hDc) (ci := 1) rfl 0 rfl) rfl rfl hl.1 rfl (lv_room (Nat.le_of_ble_eq_true rfl)) dL_law_415 ⟨by show 16 + q + 0 ≤ 1042; omega, by show 1489 + 6 * q + 0 ≤ 9693; omega⟩) hS (fun q _ h => hF q h) hF (fun r_415 u_415 t H1 locs ht hvm hw_415 hB hz1 hk1 hS => ?_)
  obtain ⟨hPm, -, hD1⟩ := hB
  rw [ht] at hPm
  obtain ⟨hR, hD9⟩ := tn_side (va_P.app hPo hPx) hDc hk1 hF hD1
  have hPo := tn_P_l hR
  have hPx := tn_P_r hR
  rw [← List.append_assoc] at hD9
  have hD := tn_D_swap hD9
  refine W.cs (cells' := 16 + q) (slots' := 1489 + 6 * q) (Nat.add_zero _) (Nat.add_zero _) ?_
  clear hDc hF hz1 hk1 hD1 ht hvm
  clear hR
  generalize H1 = H at hPx hPm hPo hS ⊢
  refine tn_lc_eq (x := r_411) (y := r_415) (tgt := 518) hx hb dL_law_418 dL_law_419 (by decide) (fun c_418 => ?_) (fun c_418 => ?_)
  · skip
    refine W.widen (k := 16 + (q + 1)) (n := 1489 + 6 * (q + 1)) (by omega) (by omega) ?_
    exact K _ _ _ _ _ _ _ _ _ _ _ _ _ _ _ _ _ _ _ _ _ _ _ _ _ _ _ hinv hPx hPm hPo hD hS (lv_sub hl [0, 1, 2, 3, 4] rfl)
  · skip
    exact absurd (tl_length hinv hw_411 hw_415) c_418
set_option maxHeartbeats 4000000 in
set_option maxRecDepth 100000 in
theorem law_c10 {p : Program} {l : Launch} {e : Env} {s : State} {m : MethodId} {below : List Frame} {meth : Method} {c : Code} {b L : Nat} {xs : Nat → Int32} {dC : Nat → ClassId} {dI : Nat → Nat → Nat} {h a1 a2 a3 a4 a5 a6 a7 k0 b1 b2 b3 b4 b5 b6 ao : Nat} {cI cL cZ : ClassId} (C : tl_C p l s m meth c b L xs dC dI cI cL cZ) {q : Nat} (hq : 5 * q + 5 ≤ L) (K : tl_K p l e s m below meth c b dC dI h a1 a2 a3 a4 a5 a6 a7 k0 b1 b2 b3 b4 b5 b6 ao cI cL cZ q 518 (16 + (q + 1)) (1489 + 6 * (q + 1))) : tl_K p l e s m below meth c b dC dI h a1 a2 a3 a4 a5 a6 a7 k0 b1 b2 b3 b4 b5 b6 ao cI cL cZ q 479 (16 + q) (1489 + 6 * q) := by
  obtain ⟨C0, hK, hfc, hZs, hst, hL⟩ := C
  obtain ⟨hx, hb, hr, hml, hown, hts0, hX, hbl, hlocks, hgv⟩ := C0
  have hts := fun w h => hts0 w (wsL_law_in w h)
  have hown : s.vm.findClass RL = some m.cls := hown
  have hA : ∀ q : Nat, s.heap.size ≤ q → (fun q : Nat => s.heap.size ≤ q) q := fun _ h => h
  have hbA : ¬ (fun q : Nat => s.heap.size ≤ q) b := Nat.not_le.mpr hbl
  intro cnt onc fp sp mo on lf sf rp rs rl th cnt2 fp2 sp2 mo2 on2 rs2 rw rl2 le bl bs ov H locs ls hinv hPx hPm hPo hD hS hl
  obtain ⟨⟨e1, e2, e3, e4, e5, e6, e7⟩, -⟩ := id hinv
  have e1 := e1.symm
  subst e1
  have e2 := e2.symm
  subst e2
  have e3 := e3.symm
  subst e3
  have e4 := e4.symm
  subst e4
  have e5 := e5.symm
  subst e5
  have e6 := e6.symm
  subst e6
  have e7 := e7.symm
  subst e7
  obtain ⟨-, g, ok, hoc, hrs, hrow, hrl⟩ := id hinv
  refine lv_aload_n hx hb dL_law_479 rfl (lv_at hl 1 rfl) ?_
  refine lv_aload_n hx hb dL_law_480 rfl (lv_at hl 0 rfl) ?_
  refine lv_iload hx hb dL_law_481 (lv_at hl 4 rfl) ?_
  refine lv_iconst (v := nI 1) hx hb dL_law_483 (by decide) ?_
  refine tn_iadd (a := (5 * q)) (b := 1) hx hb dL_law_484 ?_
  refine tn_sld (i := ((5 * q) + 1)) hx hb hX hbl hbA hS (by omega) (by omega) dL_law_485 ?_
  have hDc := hD
  have hF := tn_freeA (tn_D_l hDc) hS hA
  refine va_calll (va_runV (As := [.int (xs ((5 * q) + 1))]) (rest := []) ⟨hx, hb, hml, hown, hts⟩ (cX0_slack_ok l dC dI h a1 a2 a3 a4 a5 a6 a7 cI cL cZ cnt onc fp sp mo on lf sf rp rs rl H.size g ok (xs (5 * q + 1))) (cwV 1 hts gL_law_X0_slack rfl rfl rfl (by decide +kernel) ⟨Nat.le_of_ble_eq_true rfl, Nat.le_of_ble_eq_true rfl⟩) (tn_preV hK hPx (tn_D_l hDc) (ci := 0) rfl 0 rfl) rfl rfl hl.1 rfl (lv_room (Nat.le_of_ble_eq_true rfl)) dL_law_486 ⟨by show 16 + q + 0 ≤ 1042; omega, by show 1489 + 6 * q + 0 ≤ 9693; omega⟩) hS (fun q _ h => hF q h) hF (fun r_486 u_486 t H1 locs ht hvm hw_486 hB hz1 hk1 hS => ?_)
  obtain ⟨hPx, -, hD1⟩ := hB
  rw [ht] at hPx
  obtain ⟨hR, hD⟩ := tn_side (va_P.app hPm hPo) hDc hk1 hF hD1
  have hPm := tn_P_l hR
  have hPo := tn_P_r hR
  refine W.cs (cells' := 16 + q) (slots' := 1489 + 6 * q) (Nat.add_zero _) (Nat.add_zero _) ?_
  clear hDc hF hz1 hk1 hD1 ht hvm
  clear hR
  generalize H1 = H at hPx hPm hPo hS ⊢
  refine lv_aload_n hx hb dL_law_489 rfl (lv_at hl 2 rfl) ?_
  refine lv_aload_n hx hb dL_law_490 rfl (lv_at hl 0 rfl) ?_
  refine lv_iload hx hb dL_law_491 (lv_at hl 4 rfl) ?_
  refine lv_iconst (v := nI 1) hx hb dL_law_493 (by decide) ?_
  refine tn_iadd (a := (5 * q)) (b := 1) hx hb dL_law_494 ?_
  refine tn_sld (i := ((5 * q) + 1)) hx hb hX hbl hbA hS (by omega) (by omega) dL_law_495 ?_
  have hDc := tn_D_swap hD
  rw [List.append_assoc] at hDc
  have hF := tn_freeA (tn_D_l hDc) hS hA
  refine va_calll (va_runV (As := [.int (xs ((5 * q) + 1))]) (rest := [.long r_486]) ⟨hx, hb, hml, hown, hts⟩ (cX1_slack_ok l dC dI k0 b1 b2 b3 b4 b5 b6 cI cL cZ th cnt fp sp mo on rs rw rl le bl bs H.size g ok (xs (5 * q + 1))) (cwV 1 hts gL_law_X1_slack rfl rfl rfl (by decide +kernel) ⟨Nat.le_of_ble_eq_true rfl, Nat.le_of_ble_eq_true rfl⟩) (tn_preV hK hPm (tn_D_l hDc) (ci := 1) rfl 0 rfl) rfl rfl hl.1 rfl (lv_room (Nat.le_of_ble_eq_true rfl)) dL_law_496 ⟨by show 16 + q + 0 ≤ 1042; omega, by show 1489 + 6 * q + 0 ≤ 9693; omega⟩) hS (fun q _ h => hF q h) hF (fun r_496 u_496 t H1 locs ht hvm hw_496 hB hz1 hk1 hS => ?_)
  obtain ⟨hPm, -, hD1⟩ := hB
  rw [ht] at hPm
  obtain ⟨hR, hD9⟩ := tn_side (va_P.app hPo hPx) hDc hk1 hF hD1
  have hPo := tn_P_l hR
  have hPx := tn_P_r hR
  rw [← List.append_assoc] at hD9
  have hD := tn_D_swap hD9
  refine W.cs (cells' := 16 + q) (slots' := 1489 + 6 * q) (Nat.add_zero _) (Nat.add_zero _) ?_
  clear hDc hF hz1 hk1 hD1 ht hvm
  clear hR
  generalize H1 = H at hPx hPm hPo hS ⊢
  refine tn_lc_eq (x := r_486) (y := r_496) (tgt := 518) hx hb dL_law_499 dL_law_500 (by decide) (fun c_499 => ?_) (fun c_499 => ?_)
  · skip
    refine W.widen (k := 16 + (q + 1)) (n := 1489 + 6 * (q + 1)) (by omega) (by omega) ?_
    exact K _ _ _ _ _ _ _ _ _ _ _ _ _ _ _ _ _ _ _ _ _ _ _ _ _ _ _ hinv hPx hPm hPo hD hS (lv_sub hl [0, 1, 2, 3, 4] rfl)
  · skip
    exact absurd (tl_slack g.1 hw_486 hw_496) c_499
set_option maxHeartbeats 4000000 in
set_option maxRecDepth 100000 in
theorem law_c11 {p : Program} {l : Launch} {e : Env} {s : State} {m : MethodId} {below : List Frame} {meth : Method} {c : Code} {b L : Nat} {xs : Nat → Int32} {dC : Nat → ClassId} {dI : Nat → Nat → Nat} {h a1 a2 a3 a4 a5 a6 a7 k0 b1 b2 b3 b4 b5 b6 ao : Nat} {cI cL cZ : ClassId} (C : tl_C p l s m meth c b L xs dC dI cI cL cZ) {q : Nat} (hq : 5 * q + 5 ≤ L) (K : tl_K p l e s m below meth c b dC dI h a1 a2 a3 a4 a5 a6 a7 k0 b1 b2 b3 b4 b5 b6 ao cI cL cZ q 518 (16 + (q + 1)) (1489 + 6 * (q + 1))) : tl_K p l e s m below meth c b dC dI h a1 a2 a3 a4 a5 a6 a7 k0 b1 b2 b3 b4 b5 b6 ao cI cL cZ q 505 (16 + q) (1489 + 6 * q) := by
  obtain ⟨C0, hK, hfc, hZs, hst, hL⟩ := C
  obtain ⟨hx, hb, hr, hml, hown, hts0, hX, hbl, hlocks, hgv⟩ := C0
  have hts := fun w h => hts0 w (wsL_law_in w h)
  have hown : s.vm.findClass RL = some m.cls := hown
  have hA : ∀ q : Nat, s.heap.size ≤ q → (fun q : Nat => s.heap.size ≤ q) q := fun _ h => h
  have hbA : ¬ (fun q : Nat => s.heap.size ≤ q) b := Nat.not_le.mpr hbl
  intro cnt onc fp sp mo on lf sf rp rs rl th cnt2 fp2 sp2 mo2 on2 rs2 rw rl2 le bl bs ov H locs ls hinv hPx hPm hPo hD hS hl
  obtain ⟨⟨e1, e2, e3, e4, e5, e6, e7⟩, -⟩ := id hinv
  have e1 := e1.symm
  subst e1
  have e2 := e2.symm
  subst e2
  have e3 := e3.symm
  subst e3
  have e4 := e4.symm
  subst e4
  have e5 := e5.symm
  subst e5
  have e6 := e6.symm
  subst e6
  have e7 := e7.symm
  subst e7
  obtain ⟨-, g, ok, hoc, hrs, hrow, hrl⟩ := id hinv
  refine lv_aload_n hx hb dL_law_505 rfl (lv_at hl 1 rfl) ?_
  have hDc := hD
  have hF := tn_freeA (tn_D_l hDc) hS hA
  refine va_calli (va_runV (As := []) (rest := []) ⟨hx, hb, hml, hown, hts⟩ (cX0_alive_ok l dC dI h a1 a2 a3 a4 a5 a6 a7 cI cL cZ cnt onc fp sp mo on lf sf rp rs rl H.size ) (cwV 0 hts gL_law_X0_alive rfl rfl rfl (by decide +kernel) ⟨Nat.le_of_ble_eq_true rfl, Nat.le_of_ble_eq_true rfl⟩) (tn_preV hK hPx (tn_D_l hDc) (ci := 0) rfl 0 rfl) rfl rfl hl.1 rfl (lv_room (Nat.le_of_ble_eq_true rfl)) dL_law_506 ⟨by show 16 + q + 0 ≤ 1042; omega, by show 1489 + 6 * q + 0 ≤ 9693; omega⟩) hS (fun q _ h => hF q h) hF (fun r_506 u_506 t H1 locs ht hvm hw_506 hB hz1 hk1 hS => ?_)
  obtain ⟨hPx, -, hD1⟩ := hB
  rw [ht] at hPx
  obtain ⟨hR, hD⟩ := tn_side (va_P.app hPm hPo) hDc hk1 hF hD1
  have hPm := tn_P_l hR
  have hPo := tn_P_r hR
  refine W.cs (cells' := 16 + q) (slots' := 1489 + 6 * q) (Nat.add_zero _) (Nat.add_zero _) ?_
  clear hDc hF hz1 hk1 hD1 ht hvm
  clear hR
  generalize H1 = H at hPx hPm hPo hS ⊢
  refine lv_aload_n hx hb dL_law_509 rfl (lv_at hl 2 rfl) ?_
  have hDc := tn_D_swap hD
  rw [List.append_assoc] at hDc
  have hF := tn_freeA (tn_D_l hDc) hS hA
  refine va_calli (va_runV (As := []) (rest := [.int r_506]) ⟨hx, hb, hml, hown, hts⟩ (cX1_alive_ok l dC dI k0 b1 b2 b3 b4 b5 b6 cI cL cZ th cnt fp sp mo on rs rw rl le bl bs H.size g.1) (cwV 0 hts gL_law_X1_alive rfl rfl rfl (by decide +kernel) ⟨Nat.le_of_ble_eq_true rfl, Nat.le_of_ble_eq_true rfl⟩) (tn_preV hK hPm (tn_D_l hDc) (ci := 1) rfl 0 rfl) rfl rfl hl.1 rfl (lv_room (Nat.le_of_ble_eq_true rfl)) dL_law_510 ⟨by show 16 + q + 0 ≤ 1042; omega, by show 1489 + 6 * q + 0 ≤ 9693; omega⟩) hS (fun q _ h => hF q h) hF (fun r_510 u_510 t H1 locs ht hvm hw_510 hB hz1 hk1 hS => ?_)
  obtain ⟨hPm, -, hD1⟩ := hB
  rw [ht] at hPm
  obtain ⟨hR, hD9⟩ := tn_side (va_P.app hPo hPx) hDc hk1 hF hD1
  have hPo := tn_P_l hR
  have hPx := tn_P_r hR
  rw [← List.append_assoc] at hD9
  have hD := tn_D_swap hD9
  refine W.cs (cells' := 16 + q) (slots' := 1489 + 6 * q) (Nat.add_zero _) (Nat.add_zero _) ?_
  clear hDc hF hz1 hk1 hD1 ht hvm
  clear hR
  generalize H1 = H at hPx hPm hPo hS ⊢
  refine lv_icmp_eq (tgt := 518) hx hb dL_law_513 (by decide) (fun c_513 => ?_) (fun c_513 => ?_)
  · skip
    refine W.widen (k := 16 + (q + 1)) (n := 1489 + 6 * (q + 1)) (by omega) (by omega) ?_
    exact K _ _ _ _ _ _ _ _ _ _ _ _ _ _ _ _ _ _ _ _ _ _ _ _ _ _ _ hinv hPx hPm hPo hD hS (lv_sub hl [0, 1, 2, 3, 4] rfl)
  · skip
    exact absurd (Eq.trans hw_506 ((congrArg nI hoc).trans (Eq.symm hw_510))) c_513
set_option maxHeartbeats 4000000 in
set_option maxRecDepth 100000 in
theorem law_c3 {p : Program} {l : Launch} {e : Env} {s : State} {m : MethodId} {below : List Frame} {meth : Method} {c : Code} {b L : Nat} {xs : Nat → Int32} {dC : Nat → ClassId} {dI : Nat → Nat → Nat} {h a1 a2 a3 a4 a5 a6 a7 k0 b1 b2 b3 b4 b5 b6 ao : Nat} {cI cL cZ : ClassId} (C : tl_C p l s m meth c b L xs dC dI cI cL cZ) {q : Nat} (hq : 5 * q + 5 ≤ L) (K : tl_K p l e s m below meth c b dC dI h a1 a2 a3 a4 a5 a6 a7 k0 b1 b2 b3 b4 b5 b6 ao cI cL cZ q 518 (16 + (q + 1)) (1489 + 6 * (q + 1))) : tl_K p l e s m below meth c b dC dI h a1 a2 a3 a4 a5 a6 a7 k0 b1 b2 b3 b4 b5 b6 ao cI cL cZ q 231 (16 + q) (1489 + 6 * q) := by
  obtain ⟨C0, hK, hfc, hZs, hst, hL⟩ := C
  obtain ⟨hx, hb, hr, hml, hown, hts0, hX, hbl, hlocks, hgv⟩ := C0
  have hts := fun w h => hts0 w (wsL_law_in w h)
  have hown : s.vm.findClass RL = some m.cls := hown
  have hA : ∀ q : Nat, s.heap.size ≤ q → (fun q : Nat => s.heap.size ≤ q) q := fun _ h => h
  have hbA : ¬ (fun q : Nat => s.heap.size ≤ q) b := Nat.not_le.mpr hbl
  intro cnt onc fp sp mo on lf sf rp rs rl th cnt2 fp2 sp2 mo2 on2 rs2 rw rl2 le bl bs ov H locs ls hinv hPx hPm hPo hD hS hl
  obtain ⟨⟨e1, e2, e3, e4, e5, e6, e7⟩, -⟩ := id hinv
  have e1 := e1.symm
  subst e1
  have e2 := e2.symm
  subst e2
  have e3 := e3.symm
  subst e3
  have e4 := e4.symm
  subst e4
  have e5 := e5.symm
  subst e5
  have e6 := e6.symm
  subst e6
  have e7 := e7.symm
  subst e7
  obtain ⟨-, g, ok, hoc, hrs, hrow, hrl⟩ := id hinv
  refine lv_aload_n hx hb dL_law_231 rfl (lv_at hl 1 rfl) ?_
  refine lv_aload_n hx hb dL_law_232 rfl (lv_at hl 0 rfl) ?_
  refine lv_iload hx hb dL_law_233 (lv_at hl 4 rfl) ?_
  refine lv_iconst (v := nI 1) hx hb dL_law_235 (by decide) ?_
  refine tn_iadd (a := (5 * q)) (b := 1) hx hb dL_law_236 ?_
  refine tn_sld (i := ((5 * q) + 1)) hx hb hX hbl hbA hS (by omega) (by omega) dL_law_237 ?_
  refine lv_aload_n hx hb dL_law_238 rfl (lv_at hl 0 rfl) ?_
  refine lv_iload hx hb dL_law_239 (lv_at hl 4 rfl) ?_
  refine lv_iconst (v := nI 2) hx hb dL_law_241 (by decide) ?_
  refine tn_iadd (a := (5 * q)) (b := 2) hx hb dL_law_242 ?_
  refine tn_sld (i := ((5 * q) + 2)) hx hb hX hbl hbA hS (by omega) (by omega) dL_law_243 ?_
  refine lv_aload_n hx hb dL_law_244 rfl (lv_at hl 3 rfl) ?_
  have hDc := tl_rot hD
  have hF := tn_freeA (tn_D_l hDc) hS hA
  refine va_calli (vx_runSW (As := [.ref h, .int (xs ((5 * q) + 1)), .int (xs ((5 * q) + 2)), .ref ao]) (rest := []) ⟨hx, hb, hml, hown, hts⟩ (cL_bound_ok l dC dI h a1 a2 a3 a4 a5 a6 a7 cI cL cZ cnt onc fp sp mo on lf sf rp rs rl ao ov H.size hst g ok (xs (5 * q + 1)) (xs (5 * q + 2))) (vx_cwSW 4 hts gL_law_L_bound rfl rfl rfl (by decide +kernel) ⟨Nat.le_of_ble_eq_true rfl, Nat.le_of_ble_eq_true rfl⟩) (tn_preXS hK (va_P.app hPx hPo) (tn_D_self (tn_D_l hDc)) hfc hZs hS hF) rfl rfl hl.1 rfl (lv_room (Nat.le_of_ble_eq_true rfl)) dL_law_245 ⟨by show 16 + q + 1 ≤ 1042; omega, by show 1489 + 6 * q + 6 ≤ 9693; omega⟩) hS (fun q _ h => hF q h) hF (fun r_245 u_245 t H1 locs ht hvm hw_245 hB hz1 hk1 hS => ?_)
  obtain ⟨hPl, -, hD1⟩ := hB
  rw [ht] at hPl
  have hPx := tn_P_l hPl
  have hPo := tn_P_r hPl
  obtain ⟨hPm, hD9⟩ := tn_side hPm hDc hk1 hF hD1
  have hD := tl_rot' hD9
  refine W.cs (cells' := 16 + (q + 1)) (slots' := 1489 + 6 * (q + 1)) (by omega) (by omega) ?_
  clear hDc hF hz1 hk1 hD1 ht hvm
  generalize H1 = H at hPx hPm hPo hS ⊢
  refine lv_istore (lv' := [(5, .int r_245), (0, .ref b), (1, .ref h), (2, .ref k0), (3, .ref ao), (4, .int (nI (5 * q)))]) hx hb dL_law_248 hl (by decide) rfl (fun ls hl => ?_)
  refine lv_aload_n hx hb dL_law_250 rfl (lv_at hl 3 rfl) ?_
  refine lv_aload_n hx hb dL_law_251 rfl (lv_at hl 1 rfl) ?_
  refine lv_iload hx hb dL_law_252 (lv_at hl 5 rfl) ?_
  refine lv_iconst (v := nI 1) hx hb dL_law_254 (by decide) ?_
  refine tn_iadd (a := (5 * q)) (b := 1) hx hb dL_law_255 ?_
  refine tn_sld (i := ((5 * q) + 1)) hx hb hX hbl hbA hS (by omega) (by omega) dL_law_256 ?_
  refine lv_aload_n hx hb dL_law_257 rfl (lv_at hl 1 rfl) ?_
  refine lv_iload hx hb dL_law_258 (lv_at hl 5 rfl) ?_
  refine lv_iconst (v := nI 2) hx hb dL_law_260 (by decide) ?_
  refine tn_iadd (a := (5 * q)) (b := 2) hx hb dL_law_261 ?_
  refine tn_sld (i := ((5 * q) + 2)) hx hb hX hbl hbA hS (by omega) (by omega) dL_law_262 ?_
  have hDc := tn_D_swap hD
  rw [List.append_assoc] at hDc
  have hF := tn_freeA (tn_D_l hDc) hS hA
  refine va_calll (va_runV (As := [.int (xs ((5 * q) + 1)), .int (xs ((5 * q) + 2))]) (rest := []) ⟨hx, hb, hml, hown, hts⟩ (cX1_bound_ok l dC dI k0 b1 b2 b3 b4 b5 b6 cI cL cZ th cnt fp sp mo on rs rw rl le bl bs H.size g ok (xs (5 * q + 1)) (xs (5 * q + 2))) (cwV 2 hts gL_law_X1_bound rfl rfl rfl (by decide +kernel) ⟨Nat.le_of_ble_eq_true rfl, Nat.le_of_ble_eq_true rfl⟩) (tn_preV hK hPm (tn_D_l hDc) (ci := 1) rfl 0 rfl) rfl rfl hl.1 rfl (lv_room (Nat.le_of_ble_eq_true rfl)) dL_law_263 ⟨by show 16 + (q + 1) + 0 ≤ 1042; omega, by show 1489 + 6 * (q + 1) + 0 ≤ 9693; omega⟩) hS (fun q _ h => hF q h) hF (fun r_263 u_263 t H1 locs ht hvm hw_263 hB hz1 hk1 hS => ?_)
  obtain ⟨hPm, -, hD1⟩ := hB
  rw [ht] at hPm
  obtain ⟨hR, hD9⟩ := tn_side (va_P.app hPo hPx) hDc hk1 hF hD1
  have hPo := tn_P_l hR
  have hPx := tn_P_r hR
  rw [← List.append_assoc] at hD9
  have hD := tn_D_swap hD9
  refine W.cs (cells' := 16 + (q + 1)) (slots' := 1489 + 6 * (q + 1)) (Nat.add_zero _) (Nat.add_zero _) ?_
  clear hDc hF hz1 hk1 hD1 ht hvm
  clear hR
  generalize H1 = H at hPx hPm hPo hS ⊢
  refine lv_lstore (lv' := [(6, .long r_263), (5, .int r_245), (0, .ref b), (1, .ref h), (2, .ref k0), (3, .ref ao), (4, .int (nI (5 * q)))]) hx hb dL_law_266 hl (by decide) rfl (fun ls hl => ?_)
  refine lv_aload_n hx hb dL_law_268 rfl (lv_at hl 4 rfl) ?_
  have hDc := tn_D_swap hD
  rw [List.append_assoc] at hDc
  have hF := tn_freeA (tn_D_l hDc) hS hA
  refine va_calli (va_runV (As := []) (rest := []) ⟨hx, hb, hml, hown, hts⟩ (cX1_thrown_ok l dC dI k0 b1 b2 b3 b4 b5 b6 cI cL cZ u_263.1 cnt fp sp mo on rs rw rl u_263.2.1 u_263.2.2.1 u_263.2.2.2 H.size ) (cwV 0 hts gL_law_X1_thrown rfl rfl rfl (by decide +kernel) ⟨Nat.le_of_ble_eq_true rfl, Nat.le_of_ble_eq_true rfl⟩) (tn_preV hK hPm (tn_D_l hDc) (ci := 1) rfl 0 rfl) rfl rfl hl.1 rfl (lv_room (Nat.le_of_ble_eq_true rfl)) dL_law_269 ⟨by show 16 + (q + 1) + 0 ≤ 1042; omega, by show 1489 + 6 * (q + 1) + 0 ≤ 9693; omega⟩) hS (fun q _ h => hF q h) hF (fun r_269 u_269 t H1 locs ht hvm hw_269 hB hz1 hk1 hS => ?_)
  obtain ⟨hPm, -, hD1⟩ := hB
  rw [ht] at hPm
  obtain ⟨hR, hD9⟩ := tn_side (va_P.app hPo hPx) hDc hk1 hF hD1
  have hPo := tn_P_l hR
  have hPx := tn_P_r hR
  rw [← List.append_assoc] at hD9
  have hD := tn_D_swap hD9
  refine W.cs (cells' := 16 + (q + 1)) (slots' := 1489 + 6 * (q + 1)) (Nat.add_zero _) (Nat.add_zero _) ?_
  clear hDc hF hz1 hk1 hD1 ht hvm
  clear hR
  generalize H1 = H at hPx hPm hPo hS ⊢
  refine lv_iload hx hb dL_law_272 (lv_at hl 1 rfl) ?_
  refine lv_icmp_eq (tgt := 279) hx hb dL_law_274 (by decide) (fun c_274 => ?_) (fun c_274 => ?_)
  · skip
    refine lv_iload hx hb dL_law_279 (lv_at hl 1 rfl) ?_
    refine lv_if_ne (tgt := 295) hx hb dL_law_281 (by decide) (fun c_281 => ?_) (fun c_281 => ?_)
    · skip
      refine lv_goto (tgt := 518) hx hb dL_law_295 (by decide) ?_
      refine W.widen (k := 16 + (q + 1)) (n := 1489 + 6 * (q + 1)) (by omega) (by omega) ?_
      exact K _ _ _ _ _ _ _ _ _ _ _ _ _ _ _ _ _ _ _ _ _ _ _ _ _ _ _ hinv hPx hPm hPo hD hS (lv_sub hl [2, 3, 4, 5, 6] rfl)
    · skip
      refine lv_aload_n hx hb dL_law_284 rfl (lv_at hl 5 rfl) ?_
      refine lv_iconst (v := nI 0) hx hb dL_law_285 (by decide) ?_
      refine tn_lald (i := 0) (v := u_245.2 0) hx hb hK hPo 0 1 rfl rfl (by omega) (by decide) rfl dL_law_286 ?_
      refine lv_lload hx hb dL_law_287 (lv_at hl 0 rfl) ?_
      refine tn_lc_eq (x := (u_245.2 0)) (y := r_263) (tgt := 295) hx hb dL_law_289 dL_law_290 (by decide) (fun c_289 => ?_) (fun c_289 => ?_)
      · skip
        refine lv_goto (tgt := 518) hx hb dL_law_295 (by decide) ?_
        refine W.widen (k := 16 + (q + 1)) (n := 1489 + 6 * (q + 1)) (by omega) (by omega) ?_
        exact K _ _ _ _ _ _ _ _ _ _ _ _ _ _ _ _ _ _ _ _ _ _ _ _ _ _ _ hinv hPx hPm hPo hD hS (lv_sub hl [2, 3, 4, 5, 6] rfl)
      · skip
        exact absurd ((tl_bound hw_245 hw_263).2 c_281) c_289
  · skip
    exact absurd (Eq.trans hw_269 (tl_bound hw_245 hw_263).1) c_274
set_option maxHeartbeats 4000000 in
set_option maxRecDepth 100000 in
theorem law_c9 {p : Program} {l : Launch} {e : Env} {s : State} {m : MethodId} {below : List Frame} {meth : Method} {c : Code} {b L : Nat} {xs : Nat → Int32} {dC : Nat → ClassId} {dI : Nat → Nat → Nat} {h a1 a2 a3 a4 a5 a6 a7 k0 b1 b2 b3 b4 b5 b6 ao : Nat} {cI cL cZ : ClassId} (C : tl_C p l s m meth c b L xs dC dI cI cL cZ) {q : Nat} (hq : 5 * q + 5 ≤ L) (K : tl_K p l e s m below meth c b dC dI h a1 a2 a3 a4 a5 a6 a7 k0 b1 b2 b3 b4 b5 b6 ao cI cL cZ q 518 (16 + (q + 1)) (1489 + 6 * (q + 1))) : tl_K p l e s m below meth c b dC dI h a1 a2 a3 a4 a5 a6 a7 k0 b1 b2 b3 b4 b5 b6 ao cI cL cZ q 424 (16 + q) (1489 + 6 * q) := by
  obtain ⟨C0, hK, hfc, hZs, hst, hL⟩ := C
  obtain ⟨hx, hb, hr, hml, hown, hts0, hX, hbl, hlocks, hgv⟩ := C0
  have hts := fun w h => hts0 w (wsL_law_in w h)
  have hown : s.vm.findClass RL = some m.cls := hown
  have hA : ∀ q : Nat, s.heap.size ≤ q → (fun q : Nat => s.heap.size ≤ q) q := fun _ h => h
  have hbA : ¬ (fun q : Nat => s.heap.size ≤ q) b := Nat.not_le.mpr hbl
  intro cnt onc fp sp mo on lf sf rp rs rl th cnt2 fp2 sp2 mo2 on2 rs2 rw rl2 le bl bs ov H locs ls hinv hPx hPm hPo hD hS hl
  obtain ⟨⟨e1, e2, e3, e4, e5, e6, e7⟩, -⟩ := id hinv
  have e1 := e1.symm
  subst e1
  have e2 := e2.symm
  subst e2
  have e3 := e3.symm
  subst e3
  have e4 := e4.symm
  subst e4
  have e5 := e5.symm
  subst e5
  have e6 := e6.symm
  subst e6
  have e7 := e7.symm
  subst e7
  obtain ⟨-, g, ok, hoc, hrs, hrow, hrl⟩ := id hinv
  refine lv_aload_n hx hb dL_law_424 rfl (lv_at hl 1 rfl) ?_
  refine lv_aload_n hx hb dL_law_425 rfl (lv_at hl 0 rfl) ?_
  refine lv_iload hx hb dL_law_426 (lv_at hl 4 rfl) ?_
  refine lv_iconst (v := nI 1) hx hb dL_law_428 (by decide) ?_
  refine tn_iadd (a := (5 * q)) (b := 1) hx hb dL_law_429 ?_
  refine tn_sld (i := ((5 * q) + 1)) hx hb hX hbl hbA hS (by omega) (by omega) dL_law_430 ?_
  refine lv_aload_n hx hb dL_law_431 rfl (lv_at hl 3 rfl) ?_
  have hDc := tl_rot hD
  have hF := tn_freeA (tn_D_l hDc) hS hA
  refine va_calli (vx_runSW (As := [.ref h, .int (xs ((5 * q) + 1)), .ref ao]) (rest := []) ⟨hx, hb, hml, hown, hts⟩ (cL_earliest_ok l dC dI h a1 a2 a3 a4 a5 a6 a7 cI cL cZ cnt onc fp sp mo on lf sf rp rs rl ao ov H.size hst g ok (xs (5 * q + 1))) (vx_cwSW 3 hts gL_law_L_earliest rfl rfl rfl (by decide +kernel) ⟨Nat.le_of_ble_eq_true rfl, Nat.le_of_ble_eq_true rfl⟩) (tn_preXS hK (va_P.app hPx hPo) (tn_D_self (tn_D_l hDc)) hfc hZs hS hF) rfl rfl hl.1 rfl (lv_room (Nat.le_of_ble_eq_true rfl)) dL_law_432 ⟨by show 16 + q + 1 ≤ 1042; omega, by show 1489 + 6 * q + 6 ≤ 9693; omega⟩) hS (fun q _ h => hF q h) hF (fun r_432 u_432 t H1 locs ht hvm hw_432 hB hz1 hk1 hS => ?_)
  obtain ⟨hPl, -, hD1⟩ := hB
  rw [ht] at hPl
  have hPx := tn_P_l hPl
  have hPo := tn_P_r hPl
  obtain ⟨hPm, hD9⟩ := tn_side hPm hDc hk1 hF hD1
  have hD := tl_rot' hD9
  refine W.cs (cells' := 16 + (q + 1)) (slots' := 1489 + 6 * (q + 1)) (by omega) (by omega) ?_
  clear hDc hF hz1 hk1 hD1 ht hvm
  generalize H1 = H at hPx hPm hPo hS ⊢
  refine lv_istore (lv' := [(5, .int r_432), (0, .ref b), (1, .ref h), (2, .ref k0), (3, .ref ao), (4, .int (nI (5 * q)))]) hx hb dL_law_435 hl (by decide) rfl (fun ls hl => ?_)
  refine lv_aload_n hx hb dL_law_437 rfl (lv_at hl 3 rfl) ?_
  refine lv_aload_n hx hb dL_law_438 rfl (lv_at hl 1 rfl) ?_
  refine lv_iload hx hb dL_law_439 (lv_at hl 5 rfl) ?_
  refine lv_iconst (v := nI 1) hx hb dL_law_441 (by decide) ?_
  refine tn_iadd (a := (5 * q)) (b := 1) hx hb dL_law_442 ?_
  refine tn_sld (i := ((5 * q) + 1)) hx hb hX hbl hbA hS (by omega) (by omega) dL_law_443 ?_
  have hDc := tn_D_swap hD
  rw [List.append_assoc] at hDc
  have hF := tn_freeA (tn_D_l hDc) hS hA
  refine va_calll (va_runV (As := [.int (xs ((5 * q) + 1))]) (rest := []) ⟨hx, hb, hml, hown, hts⟩ (cX1_earliest_ok l dC dI k0 b1 b2 b3 b4 b5 b6 cI cL cZ th cnt fp sp mo on rs rw rl le bl bs H.size g ok (xs (5 * q + 1))) (cwV 1 hts gL_law_X1_earliest rfl rfl rfl (by decide +kernel) ⟨Nat.le_of_ble_eq_true rfl, Nat.le_of_ble_eq_true rfl⟩) (tn_preV hK hPm (tn_D_l hDc) (ci := 1) rfl 0 rfl) rfl rfl hl.1 rfl (lv_room (Nat.le_of_ble_eq_true rfl)) dL_law_444 ⟨by show 16 + (q + 1) + 0 ≤ 1042; omega, by show 1489 + 6 * (q + 1) + 0 ≤ 9693; omega⟩) hS (fun q _ h => hF q h) hF (fun r_444 u_444 t H1 locs ht hvm hw_444 hB hz1 hk1 hS => ?_)
  obtain ⟨hPm, -, hD1⟩ := hB
  rw [ht] at hPm
  obtain ⟨hR, hD9⟩ := tn_side (va_P.app hPo hPx) hDc hk1 hF hD1
  have hPo := tn_P_l hR
  have hPx := tn_P_r hR
  rw [← List.append_assoc] at hD9
  have hD := tn_D_swap hD9
  refine W.cs (cells' := 16 + (q + 1)) (slots' := 1489 + 6 * (q + 1)) (Nat.add_zero _) (Nat.add_zero _) ?_
  clear hDc hF hz1 hk1 hD1 ht hvm
  clear hR
  generalize H1 = H at hPx hPm hPo hS ⊢
  refine lv_lstore (lv' := [(6, .long r_444), (5, .int r_432), (0, .ref b), (1, .ref h), (2, .ref k0), (3, .ref ao), (4, .int (nI (5 * q)))]) hx hb dL_law_447 hl (by decide) rfl (fun ls hl => ?_)
  refine lv_aload_n hx hb dL_law_449 rfl (lv_at hl 4 rfl) ?_
  have hDc := tn_D_swap hD
  rw [List.append_assoc] at hDc
  have hF := tn_freeA (tn_D_l hDc) hS hA
  refine va_calli (va_runV (As := []) (rest := []) ⟨hx, hb, hml, hown, hts⟩ (cX1_thrown_ok l dC dI k0 b1 b2 b3 b4 b5 b6 cI cL cZ u_444.1 cnt fp sp mo on rs rw rl u_444.2.1 u_444.2.2.1 u_444.2.2.2 H.size ) (cwV 0 hts gL_law_X1_thrown rfl rfl rfl (by decide +kernel) ⟨Nat.le_of_ble_eq_true rfl, Nat.le_of_ble_eq_true rfl⟩) (tn_preV hK hPm (tn_D_l hDc) (ci := 1) rfl 0 rfl) rfl rfl hl.1 rfl (lv_room (Nat.le_of_ble_eq_true rfl)) dL_law_450 ⟨by show 16 + (q + 1) + 0 ≤ 1042; omega, by show 1489 + 6 * (q + 1) + 0 ≤ 9693; omega⟩) hS (fun q _ h => hF q h) hF (fun r_450 u_450 t H1 locs ht hvm hw_450 hB hz1 hk1 hS => ?_)
  obtain ⟨hPm, -, hD1⟩ := hB
  rw [ht] at hPm
  obtain ⟨hR, hD9⟩ := tn_side (va_P.app hPo hPx) hDc hk1 hF hD1
  have hPo := tn_P_l hR
  have hPx := tn_P_r hR
  rw [← List.append_assoc] at hD9
  have hD := tn_D_swap hD9
  refine W.cs (cells' := 16 + (q + 1)) (slots' := 1489 + 6 * (q + 1)) (Nat.add_zero _) (Nat.add_zero _) ?_
  clear hDc hF hz1 hk1 hD1 ht hvm
  clear hR
  generalize H1 = H at hPx hPm hPo hS ⊢
  refine lv_iload hx hb dL_law_453 (lv_at hl 1 rfl) ?_
  refine lv_icmp_eq (tgt := 460) hx hb dL_law_455 (by decide) (fun c_455 => ?_) (fun c_455 => ?_)
  · skip
    refine lv_iload hx hb dL_law_460 (lv_at hl 1 rfl) ?_
    refine lv_if_ne (tgt := 476) hx hb dL_law_462 (by decide) (fun c_462 => ?_) (fun c_462 => ?_)
    · skip
      refine lv_goto (tgt := 518) hx hb dL_law_476 (by decide) ?_
      refine W.widen (k := 16 + (q + 1)) (n := 1489 + 6 * (q + 1)) (by omega) (by omega) ?_
      exact K _ _ _ _ _ _ _ _ _ _ _ _ _ _ _ _ _ _ _ _ _ _ _ _ _ _ _ hinv hPx hPm hPo hD hS (lv_sub hl [2, 3, 4, 5, 6] rfl)
    · skip
      refine lv_aload_n hx hb dL_law_465 rfl (lv_at hl 5 rfl) ?_
      refine lv_iconst (v := nI 0) hx hb dL_law_466 (by decide) ?_
      refine tn_lald (i := 0) (v := u_432.2 0) hx hb hK hPo 0 1 rfl rfl (by omega) (by decide) rfl dL_law_467 ?_
      refine lv_lload hx hb dL_law_468 (lv_at hl 0 rfl) ?_
      refine tn_lc_eq (x := (u_432.2 0)) (y := r_444) (tgt := 476) hx hb dL_law_470 dL_law_471 (by decide) (fun c_470 => ?_) (fun c_470 => ?_)
      · skip
        refine lv_goto (tgt := 518) hx hb dL_law_476 (by decide) ?_
        refine W.widen (k := 16 + (q + 1)) (n := 1489 + 6 * (q + 1)) (by omega) (by omega) ?_
        exact K _ _ _ _ _ _ _ _ _ _ _ _ _ _ _ _ _ _ _ _ _ _ _ _ _ _ _ hinv hPx hPm hPo hD hS (lv_sub hl [2, 3, 4, 5, 6] rfl)
      · skip
        exact absurd ((tl_earl hw_432 hw_444).2 c_462) c_470
  · skip
    exact absurd (Eq.trans hw_450 (tl_earl hw_432 hw_444).1) c_455
end
section
theorem tl_more {L q : Nat} (hL : L ≤ 2560) (hq : 5 * q ≤ L) (h : ¬ (nI L - nI 5 < nI (5 * q))) : 5 * q + 5 ≤ L := by
  rw [Int32.lt_iff_toInt_lt, pk_sub_toInt (by omega) (by omega), nI_toInt (by omega)] at h
  omega
theorem tl_inc (q : Nat) : nI (5 * q) + Int32.ofInt 5 = nI (5 * (q + 1)) := by
  have : nI (5 * q) + nI 5 = nI (5 * (q + 1)) := by rw [nI_add]; congr 1
  exact this
set_option maxHeartbeats 4000000 in
set_option maxRecDepth 100000 in
/-- THE LAW'S LOOP -/
theorem law_loop {p : Program} {l : Launch} {e : Env} {s : State} {m : MethodId} {below : List Frame} {meth : Method} {c : Code} {b L : Nat} {xs : Nat → Int32} {dC : Nat → ClassId} {dI : Nat → Nat → Nat} {h a1 a2 a3 a4 a5 a6 a7 k0 b1 b2 b3 b4 b5 b6 ao : Nat} {cI cL cZ : ClassId} (C : tl_C p l s m meth c b L xs dC dI cI cL cZ) : ∀ (n q : Nat), 5 * q ≤ L → L < 5 * (q + n) → tl_K p l e s m below meth c b dC dI h a1 a2 a3 a4 a5 a6 a7 k0 b1 b2 b3 b4 b5 b6 ao cI cL cZ q 23 (16 + q) (1489 + 6 * q) := by
  intro n
  induction n with
  | zero => intro q h1 h2; exact absurd h2 (by omega)
  | succ n ih =>
    intro q h1 h2
    have K : 5 * q + 5 ≤ L → tl_K p l e s m below meth c b dC dI h a1 a2 a3 a4 a5 a6 a7 k0 b1 b2 b3 b4 b5 b6 ao cI cL cZ q 518 (16 + (q + 1)) (1489 + 6 * (q + 1)) := by
      intro hq cnt onc fp sp mo on lf sf rp rs rl th cnt2 fp2 sp2 mo2 on2 rs2 rw rl2 le bl bs ov H locs ls hinv hPx hPm hPo hD hS hl
      obtain ⟨⟨hx, hb, -⟩, -⟩ := C
      refine lv_iinc (v := nI (5 * (q + 1))) (lv' := [(4, .int (nI (5 * (q + 1)))), (0, .ref b), (1, .ref h), (2, .ref k0), (3, .ref ao)]) hx hb dL_law_518 hl (k := 4) rfl (tl_inc q) (by decide) rfl (fun ls hl => ?_)
      refine lv_goto (tgt := 23) hx hb dL_law_521 (by decide) ?_
      exact ih (q + 1) hq (by omega) _ _ _ _ _ _ _ _ _ _ _ _ _ _ _ _ _ _ _ _ _ _ _ _ _ _ _ hinv hPx hPm hPo hD hS (lv_sub hl [1, 2, 3, 4, 0] rfl)
    intro cnt onc fp sp mo on lf sf rp rs rl th cnt2 fp2 sp2 mo2 on2 rs2 rw rl2 le bl bs ov H locs ls hinv hPx hPm hPo hD hS hl
    obtain ⟨C0, hK, hfc, hZs, hst, hL⟩ := id C
    obtain ⟨hx, hb, hr, hml, hown, hts0, hX, hbl, hlocks, hgv⟩ := C0
    have hbA : ¬ (fun q : Nat => s.heap.size ≤ q) b := Nat.not_le.mpr hbl
    refine lv_iload hx hb dL_law_23 (lv_at hl 4 rfl) ?_
    refine lv_aload_n hx hb dL_law_25 rfl (lv_at hl 0 rfl) ?_
    refine va_slen hx hb hX hbl hbA hS dL_law_26 ?_
    refine lv_iconst (v := nI 5) hx hb dL_law_27 (by decide) ?_
    refine lv_isub hx hb dL_law_28 ?_
    refine lv_icmp_gt (tgt := 524) hx hb dL_law_29 (by decide) (fun c_29 => ?_) (fun c_29 => ?_)
    · refine lv_iconst (v := 1) hx hb dL_law_524 (by decide) ?_
      refine va_forget (fun q hq => hS.2.2 q hq) ?_
      refine W.widen (k := 1042) (n := 9693) (by omega) (by omega) ?_
      exact lw_ret hx hb hr hlocks dL_law_525
    · have hq : 5 * q + 5 ≤ L := tl_more hL h1 c_29
      have K := K hq
      refine lv_aload_n hx hb dL_law_32 rfl (lv_at hl 0 rfl) ?_
      refine lv_iload hx hb dL_law_33 (lv_at hl 4 rfl) ?_
      refine tn_sld (i := 5 * q) hx hb hX hbl hbA hS (by omega) (by omega) dL_law_35 ?_
      refine lv_bipush (v := nI 15) hx hb dL_law_36 (by decide) ?_
      refine lv_iand hx hb dL_law_38 ?_
      obtain ⟨j, hj, ej⟩ := pk_andE (xs (5 * q)) (m := nI 15) 4 (by decide)
      rw [ej]
      have hj : j < 16 := hj
      clear ej
      rcases (show j = 0 ∨ j = 1 ∨ j = 2 ∨ j = 3 ∨ j = 4 ∨ j = 5 ∨ j = 6 ∨ j = 7 ∨ j = 8 ∨ j = 9 ∨ j = 10 ∨ j = 11 ∨ j = 12 ∨ j = 13 ∨ j = 14 ∨ j = 15 by omega) with rfl | rfl | rfl | rfl | rfl | rfl | rfl | rfl | rfl | rfl | rfl | rfl | rfl | rfl | rfl | rfl
      · refine lv_tableIn (off := 61) (tgt := 100) hx hb dL_law_39 (by decide) (by decide) (by decide) (by decide) ?_
        exact law_c0 C hq K cnt onc fp sp mo on lf sf rp rs rl th cnt2 fp2 sp2 mo2 on2 rs2 rw rl2 le bl bs ov H locs ls hinv hPx hPm hPo hD hS hl
      · refine lv_tableIn (off := 142) (tgt := 181) hx hb dL_law_39 (by decide) (by decide) (by decide) (by decide) ?_
        exact law_c1 C hq K cnt onc fp sp mo on lf sf rp rs rl th cnt2 fp2 sp2 mo2 on2 rs2 rw rl2 le bl bs ov H locs ls hinv hPx hPm hPo hD hS hl
      · refine lv_tableIn (off := 167) (tgt := 206) hx hb dL_law_39 (by decide) (by decide) (by decide) (by decide) ?_
        exact law_c2 C hq K cnt onc fp sp mo on lf sf rp rs rl th cnt2 fp2 sp2 mo2 on2 rs2 rw rl2 le bl bs ov H locs ls hinv hPx hPm hPo hD hS hl
      · refine lv_tableIn (off := 192) (tgt := 231) hx hb dL_law_39 (by decide) (by decide) (by decide) (by decide) ?_
        exact law_c3 C hq K cnt onc fp sp mo on lf sf rp rs rl th cnt2 fp2 sp2 mo2 on2 rs2 rw rl2 le bl bs ov H locs ls hinv hPx hPm hPo hD hS hl
      · refine lv_tableIn (off := 259) (tgt := 298) hx hb dL_law_39 (by decide) (by decide) (by decide) (by decide) ?_
        exact law_c4 C hq K cnt onc fp sp mo on lf sf rp rs rl th cnt2 fp2 sp2 mo2 on2 rs2 rw rl2 le bl bs ov H locs ls hinv hPx hPm hPo hD hS hl
      · refine lv_tableIn (off := 296) (tgt := 335) hx hb dL_law_39 (by decide) (by decide) (by decide) (by decide) ?_
        exact law_c5 C hq K cnt onc fp sp mo on lf sf rp rs rl th cnt2 fp2 sp2 mo2 on2 rs2 rw rl2 le bl bs ov H locs ls hinv hPx hPm hPo hD hS hl
      · refine lv_tableIn (off := 333) (tgt := 372) hx hb dL_law_39 (by decide) (by decide) (by decide) (by decide) ?_
        exact law_c6 C hq K cnt onc fp sp mo on lf sf rp rs rl th cnt2 fp2 sp2 mo2 on2 rs2 rw rl2 le bl bs ov H locs ls hinv hPx hPm hPo hD hS hl
      · refine lv_tableIn (off := 346) (tgt := 385) hx hb dL_law_39 (by decide) (by decide) (by decide) (by decide) ?_
        exact law_c7 C hq K cnt onc fp sp mo on lf sf rp rs rl th cnt2 fp2 sp2 mo2 on2 rs2 rw rl2 le bl bs ov H locs ls hinv hPx hPm hPo hD hS hl
      · refine lv_tableIn (off := 371) (tgt := 410) hx hb dL_law_39 (by decide) (by decide) (by decide) (by decide) ?_
        exact law_c8 C hq K cnt onc fp sp mo on lf sf rp rs rl th cnt2 fp2 sp2 mo2 on2 rs2 rw rl2 le bl bs ov H locs ls hinv hPx hPm hPo hD hS hl
      · refine lv_tableIn (off := 385) (tgt := 424) hx hb dL_law_39 (by decide) (by decide) (by decide) (by decide) ?_
        exact law_c9 C hq K cnt onc fp sp mo on lf sf rp rs rl th cnt2 fp2 sp2 mo2 on2 rs2 rw rl2 le bl bs ov H locs ls hinv hPx hPm hPo hD hS hl
      · refine lv_tableIn (off := 440) (tgt := 479) hx hb dL_law_39 (by decide) (by decide) (by decide) (by decide) ?_
        exact law_c10 C hq K cnt onc fp sp mo on lf sf rp rs rl th cnt2 fp2 sp2 mo2 on2 rs2 rw rl2 le bl bs ov H locs ls hinv hPx hPm hPo hD hS hl
      · refine lv_tableIn (off := 466) (tgt := 505) hx hb dL_law_39 (by decide) (by decide) (by decide) (by decide) ?_
        exact law_c11 C hq K cnt onc fp sp mo on lf sf rp rs rl th cnt2 fp2 sp2 mo2 on2 rs2 rw rl2 le bl bs ov H locs ls hinv hPx hPm hPo hD hS hl
      · refine lv_tableOut (tgt := 518) hx hb dL_law_39 (by decide) (by decide) ?_
        refine W.widen (k := 16 + (q + 1)) (n := 1489 + 6 * (q + 1)) (by omega) (by omega) ?_
        exact K cnt onc fp sp mo on lf sf rp rs rl th cnt2 fp2 sp2 mo2 on2 rs2 rw rl2 le bl bs ov H locs ls hinv hPx hPm hPo hD hS hl
      · refine lv_tableOut (tgt := 518) hx hb dL_law_39 (by decide) (by decide) ?_
        refine W.widen (k := 16 + (q + 1)) (n := 1489 + 6 * (q + 1)) (by omega) (by omega) ?_
        exact K cnt onc fp sp mo on lf sf rp rs rl th cnt2 fp2 sp2 mo2 on2 rs2 rw rl2 le bl bs ov H locs ls hinv hPx hPm hPo hD hS hl
      · refine lv_tableOut (tgt := 518) hx hb dL_law_39 (by decide) (by decide) ?_
        refine W.widen (k := 16 + (q + 1)) (n := 1489 + 6 * (q + 1)) (by omega) (by omega) ?_
        exact K cnt onc fp sp mo on lf sf rp rs rl th cnt2 fp2 sp2 mo2 on2 rs2 rw rl2 le bl bs ov H locs ls hinv hPx hPm hPo hD hS hl
      · refine lv_tableOut (tgt := 518) hx hb dL_law_39 (by decide) (by decide) ?_
        refine W.widen (k := 16 + (q + 1)) (n := 1489 + 6 * (q + 1)) (by omega) (by omega) ?_
        exact K cnt onc fp sp mo on lf sf rp rs rl th cnt2 fp2 sp2 mo2 on2 rs2 rw rl2 le bl bs ov H locs ls hinv hPx hPm hPo hD hS hl
end
section
theorem tl_fB_in : ∀ w ∈ tn_fB, w ∈ lw_tbl := by decide +kernel
set_option maxHeartbeats 4000000 in
set_option maxRecDepth 100000 in
/-- THE LAW, from its entry -/
theorem whole_start {p : Program} {e : Env} {s : State} {m : MethodId} {below : List Frame} {meth : Method} {c : Code} (l : Launch) (hst : l.stackTraces = false) {b L : Nat} {xs : Nat → Int32} (hL : L ≤ 2560) (C0 : lw_At p s m meth c b L xs) : W p l e room_1 s m #[Value.ref b] below meth c s.heap [] 0 0 (lw_Z below #[Value.ref b] s) (entryFrame m ([Value.ref b] : List Value).toArray 8) := by
  obtain ⟨hx, hb, hr, hml, hown, hts0, hX, hbl, hlocks, hgv⟩ := id C0
  have hts := fun w h => hts0 w (wsL_law_in w h)
  have hown : s.vm.findClass RL = some m.cls := hown
  have hA : ∀ q : Nat, s.heap.size ≤ q → (fun q : Nat => s.heap.size ≤ q) q := fun _ h => h
  have hbA : ¬ (fun q : Nat => s.heap.size ≤ q) b := Nat.not_le.mpr hbl
  obtain ⟨c0, iS0, hKn0⟩ := u_known (C := RX0) (T := TX0) (N := 11) (n := 11) hts inlX0 (hts (.instantiable RX0 11) (by decide +kernel))
  obtain ⟨c1, iS1, hKn1⟩ := u_known (C := RX1) (T := TX1) (N := 12) (n := 12) hts inlX1 (hts (.instantiable RX1 12) (by decide +kernel))
  obtain ⟨dC, dI, hKc⟩ : ∃ (dC : Nat → ClassId) (dI : Nat → Nat → Nat), ∀ (k : Nat) (q : vw_C), vwCl[k]? = some q → u_Kn s q.1 q.2.1 q.2.2 (dC k) (dI k) := by
    refine ⟨fun k => if k = 0 then c0 else c1, fun k => if k = 0 then iS0 else iS1, ?_⟩
    intro k q hq
    match k, hq with
    | 0, hq => cases hq; exact hKn0
    | 1, hq => cases hq; exact hKn1
    | k + 2, hq => simp [vwCl] at hq
  have hS : va_S (fun q : Nat => s.heap.size ≤ q) s.heap s.heap [] := va_S.rf
  have hK : va_K (dC, dI) vwCl [] s := ⟨hKc, fun k q h => by simp at h⟩
  have hP : va_P (dC, dI) vwCl [] s.heap := fun k q h => by simp at h
  have hD : va_D (fun q : Nat => s.heap.size ≤ q) [] := ⟨fun i j p q h => by simp at h, fun k q h => by simp at h⟩
  have hs := flat_of_before _ hgv
  have hfc : tn_face s := fun w hw => va_Nw.of (tn_fB_ok w hw).2 (hts0 w (tl_fB_in w hw))
  have hZs : tn_Zs (fun q : Nat => s.heap.size ≤ q) s s.heap := ⟨vx_Zqof (args := #[Value.ref b]) (hts0 (.laysStatic Bundle.tN "UNASSIGNED_STACK" Bundle.steD) (by decide +kernel)) (hts0 (.initialized Bundle.tN) (by decide +kernel)) (hs _ (by decide +kernel)) (fun a ha => Nat.not_le.mpr ha), vx_Zqof (args := #[Value.ref b]) (hts0 (.laysStatic Bundle.tN "SUPPRESSED_SENTINEL" Bundle.listD) (by decide +kernel)) (hts0 (.initialized Bundle.tN) (by decide +kernel)) (hs _ (by decide +kernel)) (fun a ha => Nat.not_le.mpr ha)⟩
  have hl := lv_entry ([.ref b]) (n := 8) (Nat.le_of_ble_eq_true rfl)
  rw [lg_entry_eq]
  generalize (lg_sl ([.ref b]) ++ List.replicate (8 - (lg_sl ([.ref b])).length) Slot.unset).toArray = ls at hl ⊢
  have hl : lv_has ls 8 [(0, .ref b)] := hl
  refine va_new (ci := 0) (fs := [.null, .null, .null, .null, .int 0, .int 0, .null, .null, .null, .int 0, .long 0]) (C := RX0) (T := TX0) (N := 11) hx hb hts inlX0 tyX0 tyX0_ok hown (hts (.classLink RL 8 RX0) (by decide +kernel)) (hts (.instantiable RX0 11) (by decide +kernel)) (hts (.initialized RX0) (by decide +kernel)) hK hP hD hS hA rfl (fun j hj => by rcases (show j = 0 ∨ j = 1 ∨ j = 2 ∨ j = 3 ∨ j = 4 ∨ j = 5 ∨ j = 6 ∨ j = 7 ∨ j = 8 ∨ j = 9 ∨ j = 10 by omega) with rfl | rfl | rfl | rfl | rfl | rfl | rfl | rfl | rfl | rfl | rfl <;> rfl) (by show _ ≤ 1042; omega) (by show _ ≤ 9693; omega) dL_law_0 (fun h H hP hD hS => ?_)
  have hP : va_P (dC, dI) vwCl [(h, .inr (0, [.null, .null, .null, .null, .int 0, .int 0, .null, .null, .null, .int 0, .long 0]))] H := hP
  have hD : va_D (fun q : Nat => s.heap.size ≤ q) [(h, .inr (0, [.null, .null, .null, .null, .int 0, .int 0, .null, .null, .null, .int 0, .long 0]))] := hD
  refine W.cs (cells' := 1) (slots' := 11) rfl rfl ?_
  refine lv_dup hx hb dL_law_3 rfl ?_
  have hF := tn_freeA hD hS hA
  refine va_callv (va_runI (As := []) (rest := [.ref h]) ⟨hx, hb, hml, hown, hts⟩ (cX0_init_ok l dC dI h H.size) (cwI 0 hts gL_law_X0_init rfl rfl rfl (hts (.initialized RX0) (by decide +kernel)) (hts (.methodLink RL 19 yX0_init) (by decide +kernel)) (hts (.instanceMethod yX0_init) (by decide +kernel)) rfl (by decide +kernel) ⟨Nat.le_of_ble_eq_true rfl, Nat.le_of_ble_eq_true rfl⟩) (tn_preS hK hP hD) rfl rfl hl.1 rfl (lv_room (Nat.le_of_ble_eq_true rfl)) dL_law_4 ⟨by show 1 + 7 ≤ 1042; omega, by show 11 + 541 ≤ 9693; omega⟩) hS (fun q _ h => hF q h) hF (fun u t H1 locs ht hvm hw hB hz1 hk1 hS => ?_)
  obtain ⟨a1, a2, a3, a4, a5, a6, a7, cI, cL, cZ, hPx, hK1, hD1⟩ := hB
  rw [ht] at hPx
  have hK1 := va_K.moved hvm.symm hK1
  have hD := hD1.weaken (fun _ q _ hq => hF q.1 hq)
  clear hP hk1 hF hz1 ht hvm hD1 hw
  generalize H1 = H at hPx hS ⊢
  refine W.cs (cells' := 8) (slots' := 552) rfl rfl ?_
  refine lv_astore_n (lv' := [(1, .ref h), (0, .ref b)]) hx hb dL_law_7 rfl hl (by decide) rfl (fun ls hl => ?_)
  have hP := hPx
  refine va_new (ci := 1) (fs := [.int 0, .int 0, .null, .null, .null, .null, .int 0, .null, .long 0, .null, .long 0, .int 0]) (C := RX1) (T := TX1) (N := 12) hx hb hts inlX1 tyX1 tyX1_ok hown (hts (.classLink RL 20 RX1) (by decide +kernel)) (hts (.instantiable RX1 12) (by decide +kernel)) (hts (.initialized RX1) (by decide +kernel)) hK hP hD hS hA rfl (fun j hj => by rcases (show j = 0 ∨ j = 1 ∨ j = 2 ∨ j = 3 ∨ j = 4 ∨ j = 5 ∨ j = 6 ∨ j = 7 ∨ j = 8 ∨ j = 9 ∨ j = 10 ∨ j = 11 by omega) with rfl | rfl | rfl | rfl | rfl | rfl | rfl | rfl | rfl | rfl | rfl | rfl <;> rfl) (by show _ ≤ 1042; omega) (by show _ ≤ 9693; omega) dL_law_8 (fun k0 H hP hD hS => ?_)
  refine W.cs (cells' := 9) (slots' := 564) rfl rfl ?_
  refine lv_dup hx hb dL_law_11 rfl ?_
  have hPx := tn_P_l hP
  have hPm : va_P (dC, dI) vwCl [(k0, .inr (1, [.int 0, .int 0, .null, .null, .null, .null, .int 0, .null, .long 0, .null, .long 0, .int 0]))] H := tn_P_r hP
  have hDc : va_D (fun q : Nat => s.heap.size ≤ q) ([(k0, .inr (1, [.int 0, .int 0, .null, .null, .null, .null, .int 0, .null, .long 0, .null, .long 0, .int 0]))] ++ (tn_ws h a1 a2 a3 a4 a5 a6 a7 cI cL cZ 0 0 (fun _ => 0) (fun _ => 0) (fun _ => 0) (fun _ => false) (fun _ => 0) (fun _ => 0) (fun _ => 0) 0 0)) := tn_D_swap hD
  have hF := tn_freeA (tn_D_l hDc) hS hA
  refine va_callv (va_runI (As := []) (rest := [.ref k0]) ⟨hx, hb, hml, hown, hts⟩ (cX1_init_ok l dC dI k0 H.size) (cwI 0 hts gL_law_X1_init rfl rfl rfl (hts (.initialized RX1) (by decide +kernel)) (hts (.methodLink RL 22 yX1_init) (by decide +kernel)) (hts (.instanceMethod yX1_init) (by decide +kernel)) rfl (by decide +kernel) ⟨Nat.le_of_ble_eq_true rfl, Nat.le_of_ble_eq_true rfl⟩) (tn_preS (tys := []) (hK.sub [] rfl) hPm (tn_D_l hDc)) rfl rfl hl.1 rfl (lv_room (Nat.le_of_ble_eq_true rfl)) dL_law_12 ⟨by show 9 + 6 ≤ 1042; omega, by show 564 + 924 ≤ 9693; omega⟩) hS (fun q _ h => hF q h) hF (fun u t H1 locs ht hvm hw hB hz1 hk1 hS => ?_)
  obtain ⟨b1, b2, b3, b4, b5, b6, cI2, cL2, cZ2, hPm, hK2, hD1⟩ := hB
  rw [ht] at hPm
  have hK2 := va_K.moved hvm.symm hK2
  obtain ⟨hPx, hD9⟩ := tn_side hPx hDc hk1 hF hD1
  have hK3 := hK1.app hK2
  have e1 := (tn_sameI hK3 (i := 0) (j := 3) rfl rfl).symm
  subst e1
  have e1 := (tn_sameJ hK3 (i := 1) (j := 4) rfl rfl).symm
  subst e1
  have e1 := (tn_sameZ hK3 (i := 2) (j := 5) rfl rfl).symm
  subst e1
  have hD : va_D (fun q : Nat => s.heap.size ≤ q) ((tn_ws h a1 a2 a3 a4 a5 a6 a7 cI cL cZ 0 0 (fun _ => 0) (fun _ => 0) (fun _ => 0) (fun _ => false) (fun _ => 0) (fun _ => 0) (fun _ => 0) 0 0) ++ (tm_ws k0 b1 b2 b3 b4 b5 b6 cI cL cZ 0 0 (fun _ => 0) (fun _ => 0) (fun _ => 0) (fun _ => false) 0 (fun _ => 0) 0 (fun _ => 0) 0 0)) := tn_D_swap hD9
  clear hP hk1 hF hz1 ht hvm hD1 hw hDc hD9
  generalize H1 = H at hPx hPm hS ⊢
  refine W.cs (cells' := 15) (slots' := 1488) rfl rfl ?_
  refine lv_astore_n (lv' := [(2, .ref k0), (1, .ref h), (0, .ref b)]) hx hb dL_law_15 rfl hl (by decide) rfl (fun ls hl => ?_)
  refine lv_iconst (v := nI 1) hx hb dL_law_16 (by decide) ?_
  refine va_newa (atype := .long) (n := nI 1) (N' := 1) (ty := .long) (a0 := (1, .inr (.inl (fun _ => 0)))) hx hb (hts (.arrayClass .long) (by decide +kernel)) rfl hK1 (va_P.app hPx hPm) hD hS hA (fun cA => tn_c0l cA _) (nI_pos (by omega)) (nI_clamp (by omega)) (show 1 * 8 ≤ 536870912 by omega) (by show 15 + 1 ≤ 1042; omega) (by show 1488 + 1 ≤ 9693; omega) dL_law_17 (fun ao c9 H hK9 hP hD hS => ?_)
  have e1 := (tn_sameJ hK9 (i := 1) (j := 3) rfl rfl).symm
  subst e1
  have hPx := tn_P_l (tn_P_l hP)
  have hPm := tn_P_r (tn_P_l hP)
  have hPo := tn_P_r hP
  rw [List.append_assoc] at hD
  refine lv_astore_n (lv' := [(3, .ref ao), (2, .ref k0), (1, .ref h), (0, .ref b)]) hx hb dL_law_19 rfl hl (by decide) rfl (fun ls hl => ?_)
  refine lv_iconst (v := nI 0) hx hb dL_law_20 (by decide) ?_
  refine lv_istore (lv' := [(4, .int (nI 0)), (3, .ref ao), (2, .ref k0), (1, .ref h), (0, .ref b)]) hx hb dL_law_21 hl (by decide) rfl (fun ls hl => ?_)
  refine W.cs (cells' := 16 + 0) (slots' := 1489 + 6 * 0) rfl rfl ?_
  exact law_loop ⟨C0, hK1, hfc, hZs, hst, hL⟩ (L + 1) 0 (Nat.zero_le _) (by omega) _ _ _ _ _ _ _ _ _ _ _ _ _ _ _ _ _ _ _ _ _ _ _ _ _ _ _ tl_inv_0 hPx hPm hPo hD hS (lv_sub hl [4, 3, 2, 1, 0] rfl)
end
section
theorem tl_off_tr {l : Launch} (h : l.flags = flags0) : l.stackTraces = false := by
  unfold Launch.stackTraces
  rw [h]; decide +kernel
set_option maxHeartbeats 4000000 in
theorem lw_walk (l : Launch) (hst : l.stackTraces = false) (b : Addr) (xs : List Int32) : MetFree l x (headSpec (Jvm.Cond.code x code maxLocals ret :: tables_1) room_1) (lw_P b xs) (fun _ _ _ _ _ => True) lw_Q := by
  refine MetFree.of_bodyS (code := code) (maxLocals := maxLocals) (ret := ret) (by decide) ?_ ?_
  · intro args s m h hn
    obtain ⟨meth, c, h1, h2, h3, h4, h5, h6, -, -⟩ := Cond.code_spec hn (atoms_spec (ws := Jvm.Cond.code x code maxLocals ret :: tables_1) h _ List.mem_cons_self)
    exact ⟨meth, c, h1, h2, h3, h4, h5, h6⟩
  · intro p e s m args below meth c s₁ B hml0 hP _
    obtain ⟨rfl, hx, hbd, hgv⟩ := hP
    obtain ⟨scr, harrAt, hlist, hof, hsmall⟩ := hx
    obtain ⟨hcb, hkn, -, -⟩ := State.arrayAt?_spec harrAt
    have hown : s.vm.findClass R_law = some m.cls := findClass_of_methodNamed B.named
    have hts0 : ∀ c ∈ (Jvm.Cond.code x code maxLocals ret :: tables_1), c.before #[Value.ref b] s = true := atoms_spec (ws := Jvm.Cond.code x code maxLocals ret :: tables_1) B.pre
    have hts : ∀ w ∈ lw_tbl, w.before #[Value.ref b] s = true := k2_hts_sels lw_privs (fun w hw => hts0 w (List.mem_cons_of_mem _ hw)) lw_privs_ok
    have hml : c.maxLocals = 8 := B.maxLocals_eq (hts0 _ List.mem_cons_self)
    have X₀ : Stand p l e room_1 s m #[Value.ref b] below meth c s₁ [] 0 0 := Stand.of_body B
    have hh0 : s₁.heap = s.heap := by rw [B.state]; rfl
    have hsz : scr.slots.size = xs.length := by rw [← Array.length_toList, hlist, List.length_map]
    have hval : ∀ j : Nat, j < xs.length → scr.slots[j]? = some (.int (xs.getD j 0)) := fun j hj => by
      rw [← Array.getElem?_toList, hlist]
      simp [hj]
    have hbl : b < s.heap.size := (Array.getElem?_eq_some_iff.mp hcb).1
    have hX : va_X b xs.length (fun j => xs.getD j 0) s s.heap := ⟨scr, hcb, hof, hkn, hsz, hval⟩
    have K : W p l e room_1 s m #[Value.ref b] below meth c s₁.heap [] 0 0 (lw_Z below #[Value.ref b] s) (entryFrame m ([Value.ref b] : List Value).toArray 8) := by
      rw [hh0]
      exact whole_start l hst hbd ⟨B.exec, B.bytes, B.returns, hml, hown, hts, hX, hbl, B.notSynchronized, hgv⟩
    obtain ⟨t, a1, o, b1, b2, b3⟩ := K s₁ rfl X₀
    exact ⟨t, o, a1, b1, b2, b3⟩
theorem lw_pre_spec {args : Array Value} {s : State} (h : (Jvm.Cond.and given_1 narrow_1).before args s = true) (hr : rest_1_c.before args s = true) : ∃ (b : Addr) (xs : List Int32), lw_P b xs args s := by
  have hs := flat_of_before _ h
  have hq := flat_of_before _ hr
  have hc : (Cond.count 1).before args s = true := hs _ (by decide +kernel)
  have harr : (Cond.arrayOf (.arg 0) .int).before args s = true := hs _ (by decide +kernel)
  have hle : (Cond.le (.length (.arg 0)) (.int 2560)).before args s = true := hs _ (by decide +kernel)
  have hlen : (Cond.isInt (.length (.arg 0))).before args s = true := hq _ (by decide +kernel)
  have hall : (Cond.all (.arg 0) (.isInt (.elem (.arg 0) (.index 0)))).before args s = true := hq _ (by decide +kernel)
  obtain ⟨b, xs, hb, hx⟩ := State.ints_of_pre rfl harr hlen hall
  have hsm : xs.length < 2 ^ 31 := hx.choose_spec.2.2.2
  have hev : (Term.length (.arg 0)).eval args s none [] s = some (.int xs.length.toInt32) := hx.length_eval hb
  have hv := Cond.le_ints hev (show (Term.int 2560).eval args s none [] s = some (.int 2560) from rfl)
  have hd : xs.length.toInt32 ≤ 2560 := by
    simpa [Cond.before, Cond.holds, hv] using hle
  have hN : xs.length ≤ 2560 := (Int32.ofNat_le_ofNat hsm (by decide)).mp (show Int32.ofNat xs.length ≤ Int32.ofNat 2560 from hd)
  exact ⟨b, xs, Cond.one_arg hc (show args[0]? = some (.ref b) from hb), hx, hN, h⟩
theorem lw_comes (l : Launch) (hst : l.stackTraces = false) : Comes l x (Jvm.Cond.code x code maxLocals ret :: tables_1) room_1 (fun tb e args s => Calls_1 tb e args s ∧ rest_1 tb e args s ∧ Pre_1 tb e args s)
    (fun _ _ args s o t => lw_Q args s o t) := by
  intro p e ha hc hk s m args below hf hfit hheap happ hpre
  obtain ⟨b, xs, hP⟩ := lw_pre_spec hpre.2.2 hpre.2.1
  obtain ⟨k, o, h1, h2, h3, hQ⟩ := lw_walk l hst b xs p e ha hc hk s m args below hf ((Spec.applies_iff_loose hf).mp happ).1 hP trivial
  exact ⟨k, o, h1, h2, h3, hQ⟩
theorem lw_frame {s t : State} {o : Outcome} {args : Array Value} (h : Framed s o t [] 1042 9693) :
    Framed s o t (fieldLocs frame_1_writes args s ++ arrayLocs frame_1_arrays args s ++ staticLocs frame_1_statics s) 1042 9693 := h
theorem lw_limb (L : Cond) (hL : ∀ (args : Array Value) (s t : State), L.after args s (.returned (some (.int 1))) t = true) :
    ArmFor flags0 classFile x code maxLocals ret World_1 tables_1 room_1 Calls_1 rest_1 Pre_1
      (fun tb e a s o t => postC L tb e a s o t ∧ Framed s o t (fieldLocs frame_1_writes a s ++ arrayLocs frame_1_arrays a s ++ staticLocs frame_1_statics s) 1042 9693) := by
  intro l hfl _ _ p e ha hc hk s m args below hf hfit hheap happ hpre
  obtain ⟨k, o, h1, h2, h3, rfl, hF⟩ := lw_comes l (tl_off_tr hfl) p e ha hc hk s m args below hf hfit hheap happ hpre
  exact ⟨k, _, h1, h2, h3, hL args s _, lw_frame hF⟩
theorem i_vc : Claimed_1_1 ∧ Claimed_1_2 := ⟨lw_limb limb_1_1 (fun args s t => by simp [limb_1_1, Cond.after, Cond.holds, Cond.value]), lw_limb limb_1_2 (fun args s t => Cond.after_iff.mpr (by
  first | (rw [show limb_1_2 = Cond.eq .result (.int 1) from rfl, Cond.eq_ints (x := 1) (y := 1) rfl rfl]; simp; done) | (simp [limb_1_2, Cond.value, Term.eval]; done)))⟩
end
